/-! THE REFERENCE: set, print, strike -/
def lfl (L : List (Nat × TS)) (k : Nat) : Int32 := match L[k]? with
  | some q => q.2.2.1
  | none => 0
def lwd (L : List (Nat × TS)) (k : Nat) : Int32 := match L[k]? with
  | some q => q.2.2.2
  | none => 0
def cdSet (g : MG) (p : Int32) : Nat := if isN (npO g) p = false then 1 else match plO g (iz p) with
  | none => 2
  | some _ => 0
def setG (g : MG) (p : Nat) (a : List (Nat × TS) × (Nat → Int32)) : MG := fun k j =>
  if k = 18 then (if 4 * p ≤ j ∧ j < 4 * p + a.1.length then nI (lfn a.1 (j - 4 * p)) else g 18 j)
  else if k = 19 then (if 4 * p ≤ j ∧ j < 4 * p + a.1.length then lfl a.1 (j - 4 * p) else g 19 j)
  else if k = 20 then (if 4 * p ≤ j ∧ j < 4 * p + a.1.length then lwd a.1 (j - 4 * p) else g 20 j)
  else if k = 7 then (if j < 50 then g 7 j + a.2 j else g 7 j)
  else if k = 15 then (if j = p then 1 else g 15 j)
  else g k j
def stSet (g : MG) (p : Int32) : MG := if isN (npO g) p = false then g else match plO g (iz p) with
  | none => g
  | some a => setG g (iz p) a
def cdPrint (g : MG) (p c : Int32) : Nat := if isN (npO g) p = false then 1 else if inB c 1 500 = false then 2 else if g 15 (iz p) = 0 then 3 else 0
def gtO (g : MG) (p : Nat) (c : Int32) : Int32 := prO g (wdO g) p (nlO g p) (iz (g 12 p)) * c / 100
def stPrint (g : MG) (p c : Int32) : MG := if cdPrint g p c = 0 then wr (wr (rwr g 8 (fun j => if j < 50 then g 8 j + c * nI (outO g (iz p) (j / 10) (j % 10)) else g 8 j)) 0 3 (g 0 3 + gtO g (iz p) c)) 16 (iz p) (g 16 (iz p) + c) else g
def cdStrike (g : MG) (p : Int32) : Nat := if isN (npO g) p = false then 1 else if g 15 (iz p) = 0 then 2 else 0
def skO (g : MG) (p j : Nat) : Int32 := g 7 j - nI (outO g p (j / 10) (j % 10))
def brO (g : MG) (p j : Nat) : Int32 := mn (g 8 j / 400) (g 6 j - skO g p j)
def stStrike (g : MG) (p : Int32) : MG := if cdStrike g p = 0 then fun k j =>
  if k = 7 then (if j < 50 then skO g (iz p) j else g 7 j)
  else if k = 6 then (if j < 50 then g 6 j - brO g (iz p) j else g 6 j)
  else if k = 8 then (if j < 50 then g 8 j - 400 * brO g (iz p) j else g 8 j)
  else if k = 15 then (if j = iz p then 0 else g 15 j)
  else if k = 0 then (if j = 4 then g 0 4 + sumI (brO g (iz p)) 50 else g 0 j)
  else g k j
  else g
set_option maxRecDepth 100000 in
theorem c_set (l : Launch) (Z : Zc) (p : Int32) (g : MG) (hI : IvM g) : MI l yX4_set cX4_set 4 (some .int) (rmz 5 140 0 0) Z [.ref (Z.ad 0), .int p] g (PM g (cdSet g p) (wdF (plO g (iz p))) (stSet g p)) := by
  refine ent_i (own := RX4) (lo := [some (.ref (Z.ad 0)), some (.int p), none, none]) (by decide) rfl (by simp [lg_sl, Value.category]) rfl (fun P hl C ret => ?_)
  obtain ⟨⟨nf, hf5, hnf⟩, ⟨np, hp6, hnp⟩, hot, hnl, htn, his, hwd, htk⟩ := id hI
  have enf : nfO g = nf := by unfold nfO; rw [hnf]; exact iz_nI (by omega)
  have enp : npO g = np := by unfold npO; rw [hnp]; exact iz_nI (by omega)
  refine v_aload_n C dX4_set_0 rfl rfl ?_
  refine v_iconst (v := 0) C dX4_set_1 (by decide) ?_
  refine v_put C inG4 rfl tyX4 tyX4_ok nmX4 0 (by decide) (tg3 195 rfl rfl) rfl rfl (ty := .int) rfl rfl rfl cx_M (Nat.le_of_ble_eq_true rfl) rfl (by omega) cx_M dX4_set_2 ?_
  refine v_aload_n C dX4_set_5 rfl rfl ?_
  refine v_iload_n C dX4_set_6 rfl rfl ?_
  refine v_callVi (n := 1) (as := [.int p]) C (c_isPoster _ Z np p (wr g 0 0 0) hnp hp6) (gv (tg4 87 rfl rfl) (tg4 89 rfl rfl) (tg0 22 rfl rfl) (tg1 6 rfl rfl) (tg4 90 rfl rfl)) (by decide +kernel) ⟨Nat.le_of_ble_eq_true rfl, Nat.le_of_ble_eq_true rfl⟩ rfl cx_M rfl rfl (Nat.le_of_ble_eq_true rfl) dX4_set_7 ⟨Nat.le_of_ble_eq_true rfl, Nat.le_of_ble_eq_true rfl⟩ (fun r7 g7 hp7 => ?_)
  obtain ⟨rfl, hg7⟩ := hp7
  rw [hg7]
  refine v_if_ne (tgt := 19) C dX4_set_10 (by decide) (fun h10 => ?_) (fun h10 => ?_)
  · have k10 := bI_1.mp h10
    obtain ⟨a, ha, rfl⟩ := isN_ex k10
    have ea : iz (nI a) = a := iz_nI (by omega)
    have hl := IvM_nl hI (show a < 6 by omega)
    refine v_aload_n C dX4_set_19 rfl rfl ?_
    refine v_iload_n C dX4_set_20 rfl rfl ?_
    refine v_callVi (n := 1) (as := [.int (nI a)]) C (c_tryPoster _ Z a (nlO g a) nf (wdO g) (wr g 0 0 0) (by omega) hot hnf hf5 hl.1 hl.2 (IvM_W hI)) (gv (tg4 96 rfl rfl) (tg4 98 rfl rfl) (tg0 23 rfl rfl) (tg1 6 rfl rfl) (tg4 99 rfl rfl)) (by decide +kernel) ⟨Nat.le_of_ble_eq_true rfl, Nat.le_of_ble_eq_true rfl⟩ rfl cx_M rfl rfl (Nat.le_of_ble_eq_true rfl) dX4_set_21 ⟨Nat.le_of_ble_eq_true rfl, Nat.le_of_ble_eq_true rfl⟩ (fun r21 g21 hp21 => ?_)
    obtain ⟨hfr, hq⟩ := hp21
    have epl : plM (wr g 0 0 0) a (nlO g a) nf (wdO g) = plO g a := by unfold plO; rw [enf]; rfl
    rw [epl] at hq
    cases ho : plO g a with
    | none =>
      rw [ho] at hq
      have hq : r21 = -1 := hq
      subst hq
      have hcd : cdSet g (nI a) = 2 := by unfold cdSet; rw [enp, k10, ea, ho]; rfl
      have hst : stSet g (nI a) = g := by unfold stSet; rw [enp, k10, ea, ho]; rfl
      refine v_istore_n (lo' := [some (.ref (Z.ad 0)), some (.int (nI a)), some (.int (-1)), none]) C dX4_set_24 rfl (Nat.le_of_ble_eq_true rfl) rfl rfl ?_
      refine v_iload_n C dX4_set_25 rfl rfl ?_
      refine v_iconst (v := (-1)) C dX4_set_26 (by decide) ?_
      refine v_icmp_ne (tgt := 36) C dX4_set_27 (by decide) (fun h27 => ?_) (fun h27 => ?_)
      · exact absurd rfl h27
      · refine v_aload_n C dX4_set_30 rfl rfl ?_
        refine v_iconst (v := 2) C dX4_set_31 (by decide) ?_
        refine v_callVi (n := 1) (as := [.int 2]) C (c_no _ Z 2 g21) (gv (tg4 48 rfl rfl) (tg4 50 rfl rfl) (tg0 20 rfl rfl) (tg1 6 rfl rfl) (tg4 51 rfl rfl)) (by decide +kernel) ⟨Nat.le_of_ble_eq_true rfl, Nat.le_of_ble_eq_true rfl⟩ rfl cx_M rfl rfl (Nat.le_of_ble_eq_true rfl) dX4_set_32 ⟨Nat.le_of_ble_eq_true rfl, Nat.le_of_ble_eq_true rfl⟩ (fun r32 g32 hp32 => ?_)
        obtain ⟨rfl, hg32⟩ := hp32
        rw [hg32]
        exact ret _ _ _ _ dX4_set_35 (PM.no (k := 2) hcd (by decide) hst (fun j h1 h2 => (hfr.2 j (by omega)).trans (wr_ne _ _ _ _ (Or.inr (by omega)))) (fun q h1 h2 => (hfr.1 q (by omega) (by omega)).trans (wr_row _ _ _ _ (by omega))) (fun q hq => (hfr.1 q (by omega) (by omega)).trans (wr_row _ _ _ _ (by omega))))
    | some am =>
      obtain ⟨L, mo⟩ := am
      rw [ho] at hq
      have hLI := plM_I hf5 hot (show plM g a (nlO g a) nf (wdO g) = some (L, mo) by rw [← ho]; unfold plO; rw [enf])
      obtain ⟨hr21, h21, hL⟩ := hq
      have hlen : L.length = nlO g a := by rw [hLI.1, wds_len]; omega
      obtain ⟨Cf, hCf, hCe⟩ := plI_fl hLI
      have hcd : cdSet g (nI a) = 0 := by unfold cdSet; rw [enp, k10, ea, ho]; rfl
      have hst : stSet g (nI a) = setG g a (L, mo) := by unfold stSet; rw [enp, k10, ea, ho]; rfl
      subst hr21
      refine v_istore_n (lo' := [some (.ref (Z.ad 0)), some (.int (nI a)), some (.int (flS L)), none]) C dX4_set_24 rfl (Nat.le_of_ble_eq_true rfl) rfl rfl ?_
      refine v_iload_n C dX4_set_25 rfl rfl ?_
      refine v_iconst (v := (-1)) C dX4_set_26 (by decide) ?_
      refine v_icmp_ne (tgt := 36) C dX4_set_27 (by decide) (fun h27 => ?_) (fun h27 => ?_)
      · refine v_aload_n C dX4_set_36 rfl rfl ?_
        refine v_get C inG4 rfl 22 (by decide) (tg3 217 rfl rfl) rfl cx_M rfl dX4_set_37 ?_
        refine v_iconst (v := 0) C dX4_set_40 (by decide) ?_
        refine v_aload_n C dX4_set_41 rfl rfl ?_
        refine v_get C inG4 rfl 18 (by decide) (tg3 213 rfl rfl) rfl cx_M rfl dX4_set_42 ?_
        refine v_iconst (v := 4) C dX4_set_45 (by decide) ?_
        refine v_iload_n C dX4_set_46 rfl rfl ?_
        refine v_imul C dX4_set_47 ?_
        refine v_topi (y := nI (4 * a)) (by rw [show (4 : Int32) = nI 4 from rfl, nI_mul]) ?_
        refine v_iconst (v := 4) C dX4_set_48 (by decide) ?_
        refine v_copy (ks := 22) (kd := 18) (a := 0) (b := 4 * a) (n := 4) C (tg4 122 rfl rfl) (tg1 131 rfl rfl) (tg1 130 rfl rfl) (tg1 15 rfl rfl) cxA22 (fun _ _ => cxA18) rfl (by omega) (by omega) (by omega) (by decide) (Nat.le_of_ble_eq_true rfl) (Nat.le_of_ble_eq_true rfl) dX4_set_49 ?_
        refine v_aload_n C dX4_set_52 rfl rfl ?_
        refine v_get C inG4 rfl 23 (by decide) (tg3 218 rfl rfl) rfl cx_M rfl dX4_set_53 ?_
        refine v_iconst (v := 0) C dX4_set_56 (by decide) ?_
        refine v_aload_n C dX4_set_57 rfl rfl ?_
        refine v_get C inG4 rfl 19 (by decide) (tg3 214 rfl rfl) rfl cx_M rfl dX4_set_58 ?_
        refine v_iconst (v := 4) C dX4_set_61 (by decide) ?_
        refine v_iload_n C dX4_set_62 rfl rfl ?_
        refine v_imul C dX4_set_63 ?_
        refine v_topi (y := nI (4 * a)) (by rw [show (4 : Int32) = nI 4 from rfl, nI_mul]) ?_
        refine v_iconst (v := 4) C dX4_set_64 (by decide) ?_
        refine v_copy (ks := 23) (kd := 19) (a := 0) (b := 4 * a) (n := 4) C (tg4 122 rfl rfl) (tg1 131 rfl rfl) (tg1 130 rfl rfl) (tg1 15 rfl rfl) cxA23 (fun _ _ => cxA19) rfl (by omega) (by omega) (by omega) (by decide) (Nat.le_of_ble_eq_true rfl) (Nat.le_of_ble_eq_true rfl) dX4_set_65 ?_
        refine v_aload_n C dX4_set_68 rfl rfl ?_
        refine v_get C inG4 rfl 24 (by decide) (tg3 219 rfl rfl) rfl cx_M rfl dX4_set_69 ?_
        refine v_iconst (v := 0) C dX4_set_72 (by decide) ?_
        refine v_aload_n C dX4_set_73 rfl rfl ?_
        refine v_get C inG4 rfl 20 (by decide) (tg3 215 rfl rfl) rfl cx_M rfl dX4_set_74 ?_
        refine v_iconst (v := 4) C dX4_set_77 (by decide) ?_
        refine v_iload_n C dX4_set_78 rfl rfl ?_
        refine v_imul C dX4_set_79 ?_
        refine v_topi (y := nI (4 * a)) (by rw [show (4 : Int32) = nI 4 from rfl, nI_mul]) ?_
        refine v_iconst (v := 4) C dX4_set_80 (by decide) ?_
        refine v_copy (ks := 24) (kd := 20) (a := 0) (b := 4 * a) (n := 4) C (tg4 122 rfl rfl) (tg1 131 rfl rfl) (tg1 130 rfl rfl) (tg1 15 rfl rfl) cxA24 (fun _ _ => cxA20) rfl (by omega) (by omega) (by omega) (by decide) (Nat.le_of_ble_eq_true rfl) (Nat.le_of_ble_eq_true rfl) dX4_set_81 ?_
        obtain ⟨gc, hgc⟩ : ∃ gc, gc = rwr (rwr (rwr (g21) 18 (va_cpy ((g21) 22) ((g21) 18) 0 (4 * a) 4)) 19 (va_cpy ((rwr (g21) 18 (va_cpy ((g21) 22) ((g21) 18) 0 (4 * a) 4)) 23) ((rwr (g21) 18 (va_cpy ((g21) 22) ((g21) 18) 0 (4 * a) 4)) 19) 0 (4 * a) 4)) 20 (va_cpy ((rwr (rwr (g21) 18 (va_cpy ((g21) 22) ((g21) 18) 0 (4 * a) 4)) 19 (va_cpy ((rwr (g21) 18 (va_cpy ((g21) 22) ((g21) 18) 0 (4 * a) 4)) 23) ((rwr (g21) 18 (va_cpy ((g21) 22) ((g21) 18) 0 (4 * a) 4)) 19) 0 (4 * a) 4)) 24) ((rwr (rwr (g21) 18 (va_cpy ((g21) 22) ((g21) 18) 0 (4 * a) 4)) 19 (va_cpy ((rwr (g21) 18 (va_cpy ((g21) 22) ((g21) 18) 0 (4 * a) 4)) 23) ((rwr (g21) 18 (va_cpy ((g21) 22) ((g21) 18) 0 (4 * a) 4)) 19) 0 (4 * a) 4)) 20) 0 (4 * a) 4) := ⟨_, rfl⟩
        rw [← hgc]
        have c0 : ∀ q, q ≠ 18 → q ≠ 19 → q ≠ 20 → gc q = g21 q := fun q h1 h2 h3 => by rw [hgc, rwr_ne _ _ _ h3, rwr_ne _ _ _ h2, rwr_ne _ _ _ h1]
        have c18 : ∀ j, gc 18 j = if 4 * a ≤ j ∧ j < 4 * a + 4 then g21 22 (0 + (j - 4 * a)) else g21 18 j := fun j => by rw [hgc, rwr_ne _ _ _ (by decide), rwr_ne _ _ _ (by decide), rwr_same]; rfl
        have c19 : ∀ j, gc 19 j = if 4 * a ≤ j ∧ j < 4 * a + 4 then g21 23 (0 + (j - 4 * a)) else g21 19 j := fun j => by rw [hgc, rwr_ne _ _ _ (by decide), rwr_same, rwr_ne _ _ _ (show 23 ≠ 18 by decide), rwr_ne _ _ _ (show 19 ≠ 18 by decide)]; rfl
        have c20 : ∀ j, gc 20 j = if 4 * a ≤ j ∧ j < 4 * a + 4 then g21 24 (0 + (j - 4 * a)) else g21 20 j := fun j => by rw [hgc, rwr_same, rwr_ne _ _ _ (show 24 ≠ 19 by decide), rwr_ne _ _ _ (show 24 ≠ 18 by decide), rwr_ne _ _ _ (show 20 ≠ 19 by decide), rwr_ne _ _ _ (show 20 ≠ 18 by decide)]; rfl
        have hRE : ∀ g1 : MG, (∀ q, q ≠ 7 → g1 q = gc q) → (∀ j, g1 7 j = if j < 50 then g 7 j + mo j else g 7 j) → RE (setG g a (L, mo)) (wr g1 15 a 1) := by
          intro g1 hr h7
          have base : ∀ q, 5 ≤ q → q ≤ 17 → q ≠ 7 → g1 q = g q := fun q h1 h2 h3 => by rw [hr q h3, c0 q (by omega) (by omega) (by omega), hfr.1 q (by omega) (by omega)]; exact wr_row _ _ _ _ (by omega)
          refine ⟨fun j h1 h2 => ?_, fun q h1 h2 => ?_, fun p k hp hs hk => ?_⟩
          · rw [wr_row _ _ _ _ (by decide), hr 0 (by decide), c0 0 (by decide) (by decide) (by decide), hfr.2 j (by omega)]
            exact wr_ne _ _ _ _ (Or.inr (by omega))
          · funext j
            by_cases h15 : q = 15
            · subst h15
              rw [wr_own]; unfold upd setG
              rw [base 15 (by decide) (by decide) (by decide)]; rfl
            · rw [wr_row _ _ _ _ h15]
              by_cases h77 : q = 7
              · subst h77; rw [h7]; rfl
              · rw [base q h1 h2 h77]; unfold setG
                rw [if_neg (by omega), if_neg (by omega), if_neg (by omega), if_neg h77, if_neg h15]
          · have hk4 : k < nlO g p := hk
            have hp4 := (IvM_nl hI hp).2
            rw [wr_row _ _ _ _ (by decide), wr_row _ _ _ _ (by decide), wr_row _ _ _ _ (by decide), hr 18 (by decide), hr 19 (by decide), hr 20 (by decide), c18, c19, c20]
            show _ = (if 4 * a ≤ 4 * p + k ∧ 4 * p + k < 4 * a + L.length then nI (lfn L (4 * p + k - 4 * a)) else g 18 (4 * p + k)) ∧ _ = (if 4 * a ≤ 4 * p + k ∧ 4 * p + k < 4 * a + L.length then lfl L (4 * p + k - 4 * a) else g 19 (4 * p + k)) ∧ _ = (if 4 * a ≤ 4 * p + k ∧ 4 * p + k < 4 * a + L.length then lwd L (4 * p + k - 4 * a) else g 20 (4 * p + k))
            by_cases hpa : p = a
            · subst hpa
              have e1 : 4 * p + k - 4 * p = k := by omega
              rw [if_pos (by omega), if_pos (by omega), if_pos (by omega), if_pos (by omega), if_pos (by omega), if_pos (by omega), e1, Nat.zero_add]
              obtain ⟨q, hq⟩ : ∃ q, L[k]? = some q := ⟨_, List.getElem?_eq_getElem (by omega)⟩
              obtain ⟨q1, q2, q3⟩ := hL k q hq
              exact ⟨by rw [q1]; unfold lfn; rw [hq], by rw [q2]; unfold lfl; rw [hq], by rw [q3]; unfold lwd; rw [hq]⟩
            · rw [if_neg (by omega), if_neg (by omega), if_neg (by omega), if_neg (by omega), if_neg (by omega), if_neg (by omega)]
              rw [hfr.1 18 (by omega) (by decide), hfr.1 19 (by omega) (by decide), hfr.1 20 (by omega) (by decide)]
              exact ⟨congrFun (wr_row _ _ _ _ (by decide)) _, congrFun (wr_row _ _ _ _ (by decide)) _, congrFun (wr_row _ _ _ _ (by decide)) _⟩
        have loop : ∀ (n k : Nat) (g1 : MG), 50 - k < n → k ≤ 50 → (∀ q, q ≠ 7 → g1 q = gc q) → (∀ j, g1 7 j = if j < k then g 7 j + mo j else g 7 j) → V P (rmz 5 140 0 0) Z [some (.ref (Z.ad 0)), some (.int (nI a)), some (.int (flS L)), some (.int (nI k))] 86 [] g1 0 0 := by
          intro n
          induction n with
          | zero => intro k g1 hn; exact absurd hn (Nat.not_lt_zero _)
          | succ n ih =>
            intro k g1 hn hk hr h7
            refine v_iload_n C dX4_set_86 rfl rfl ?_
            refine v_bipush (v := 50) C dX4_set_87 (by decide) ?_
            refine v_icmp_ge (tgt := 113) C dX4_set_89 (by decide) (fun h89 => ?_) (fun h89 => ?_)
            · have hkn : k = 50 := Nat.le_antisymm hk ((nI_leI (a := 50) (by decide) (by omega)).mp h89)
              subst hkn
              refine v_aload_n C dX4_set_113 rfl rfl ?_
              refine v_get C inG4 rfl 15 (by decide) (tg3 210 rfl rfl) rfl cx_M rfl dX4_set_114 ?_
              refine v_iload_n C dX4_set_117 rfl rfl ?_
              refine v_iconst (v := 1) C dX4_set_118 (by decide) ?_
              refine v_iastN (a := a) C (fun _ _ => cxA15) rfl (by omega) (by omega) dX4_set_119 ?_
              refine v_iload_n C dX4_set_120 rfl rfl ?_
              exact ret _ _ _ _ dX4_set_121 ⟨by rw [hcd, wr_row _ _ _ _ (by decide), hr 0 (by decide), c0 0 (by decide) (by decide) (by decide)]; exact hfr.2 0 (by decide), fun _ => by rw [ea, ho]; rfl, by rw [hst]; exact hRE g1 hr h7, fun q hq => by rw [wr_row _ _ _ _ (by omega), hr q (by omega), c0 q (by omega) (by omega) (by omega), hfr.1 q (by omega) (by omega)]; exact wr_row _ _ _ _ (by omega)⟩
            · have hkn : k < 50 := Nat.lt_of_not_le fun q => h89 ((nI_leI (a := 50) (by decide) (by omega)).mpr q)
              refine v_aload_n C dX4_set_92 rfl rfl ?_
              refine v_get C inG4 rfl 7 (by decide) (tg3 202 rfl rfl) rfl cx_M rfl dX4_set_93 ?_
              refine v_iload_n C dX4_set_96 rfl rfl ?_
              refine v_dup2 C dX4_set_97 rfl rfl ?_
              refine v_ialdN (a := k) C cxA7 (by omega) dX4_set_98 ?_
              refine v_topi (y := g 7 k) (by rw [h7, if_neg (by omega)]) ?_
              refine v_aload_n C dX4_set_99 rfl rfl ?_
              refine v_get C inG4 rfl 21 (by decide) (tg3 216 rfl rfl) rfl cx_M rfl dX4_set_100 ?_
              refine v_iload_n C dX4_set_103 rfl rfl ?_
              refine v_ialdN (a := k) C cxA21 (by omega) dX4_set_104 ?_
              refine v_topi (y := mo k) (by rw [hr 21 (by decide), c0 21 (by decide) (by decide) (by decide), h21]) ?_
              refine v_iadd C dX4_set_105 ?_
              refine v_iastN (a := k) C (fun _ _ => cxA7) rfl (by omega) (by omega) dX4_set_106 ?_
              refine v_iinc (lo' := [some (.ref (Z.ad 0)), some (.int (nI a)), some (.int (flS L)), some (.int ((nI k) + 1))]) C dX4_set_107 rfl rfl rfl rfl ?_
              refine v_lo (lo' := [some (.ref (Z.ad 0)), some (.int (nI a)), some (.int (flS L)), some (.int (nI (k + 1)))]) (by rw [← nI_1 k]) ?_
              refine v_goto (tgt := 86) C dX4_set_110 (by decide) ?_
              exact ih (k + 1) _ (by omega) (by omega) (fun q hq => by rw [wr_row _ _ _ _ hq]; exact hr q hq) (fun j => by by_cases hj : j = k; (· rw [hj, wr_same, if_pos (by omega)]); (· rw [wr_ne _ _ _ _ (Or.inr hj), h7]; by_cases hc : j < k; (· rw [if_pos hc, if_pos (by omega)]); (· rw [if_neg hc, if_neg (by omega)])))
        refine v_iconst (v := 0) C dX4_set_84 (by decide) ?_
        refine v_topi (y := nI 0) rfl ?_
        refine v_istore_n (lo' := [some (.ref (Z.ad 0)), some (.int (nI a)), some (.int (flS L)), some (.int (nI 0))]) C dX4_set_85 rfl (Nat.le_of_ble_eq_true rfl) rfl rfl ?_
        exact loop 51 0 gc (by omega) (by omega) (fun _ _ => rfl) (fun j => by rw [if_neg (Nat.not_lt_zero j), c0 7 (by decide) (by decide) (by decide), hfr.1 7 (by omega) (by decide)]; rfl)
      · exact absurd h27 (by rw [hCe]; exact nI_m1 (by rw [hlen] at hCf; omega))
  · have k10 := bI_0.mp h10
    refine v_aload_n C dX4_set_13 rfl rfl ?_
    refine v_iconst (v := 1) C dX4_set_14 (by decide) ?_
    refine v_callVi (n := 1) (as := [.int 1]) C (c_no _ Z 1 (wr g 0 0 0)) (gv (tg4 48 rfl rfl) (tg4 50 rfl rfl) (tg0 20 rfl rfl) (tg1 6 rfl rfl) (tg4 51 rfl rfl)) (by decide +kernel) ⟨Nat.le_of_ble_eq_true rfl, Nat.le_of_ble_eq_true rfl⟩ rfl cx_M rfl rfl (Nat.le_of_ble_eq_true rfl) dX4_set_15 ⟨Nat.le_of_ble_eq_true rfl, Nat.le_of_ble_eq_true rfl⟩ (fun r15 g15 hp15 => ?_)
    obtain ⟨rfl, hg15⟩ := hp15
    rw [hg15]
    exact ret _ _ _ _ dX4_set_18 (PM.no (k := 1) (by unfold cdSet; rw [enp, k10]; rfl) (by decide) (by unfold stSet; rw [enp, k10]; rfl) (fun j h1 h2 => wr_ne _ _ _ _ (Or.inr (by omega))) (fun q h1 h2 => wr_row _ _ _ _ (by omega)) (fun q hq => wr_row _ _ _ _ (by omega)))
set_option maxRecDepth 100000 in
theorem c_print (l : Launch) (Z : Zc) (p c : Int32) (g : MG) (hI : IvM g) : MI l yX4_print cX4_print 4 (some .int) (rmz 3 62 0 0) Z [.ref (Z.ad 0), .int p, .int c] g (PM g (cdPrint g p c) (gtO g (iz p) c) (stPrint g p c)) := by
  refine ent_i (own := RX4) (lo := [some (.ref (Z.ad 0)), some (.int p), some (.int c), none]) (by decide) rfl (by simp [lg_sl, Value.category]) rfl (fun P hl C ret => ?_)
  obtain ⟨⟨nf, hf5, hnf⟩, ⟨np, hp6, hnp⟩, hot, hnl, htn, his, hwd, htk⟩ := id hI
  have enf : nfO g = nf := by unfold nfO; rw [hnf]; exact iz_nI (by omega)
  have enp : npO g = np := by unfold npO; rw [hnp]; exact iz_nI (by omega)
  refine v_aload_n C dX4_print_0 rfl rfl ?_
  refine v_iconst (v := 0) C dX4_print_1 (by decide) ?_
  refine v_put C inG4 rfl tyX4 tyX4_ok nmX4 0 (by decide) (tg3 195 rfl rfl) rfl rfl (ty := .int) rfl rfl rfl cx_M (Nat.le_of_ble_eq_true rfl) rfl (by omega) cx_M dX4_print_2 ?_
  refine v_aload_n C dX4_print_5 rfl rfl ?_
  refine v_iload_n C dX4_print_6 rfl rfl ?_
  refine v_callVi (n := 1) (as := [.int p]) C (c_isPoster _ Z np p (wr g 0 0 0) hnp hp6) (gv (tg4 87 rfl rfl) (tg4 89 rfl rfl) (tg0 22 rfl rfl) (tg1 6 rfl rfl) (tg4 90 rfl rfl)) (by decide +kernel) ⟨Nat.le_of_ble_eq_true rfl, Nat.le_of_ble_eq_true rfl⟩ rfl cx_M rfl rfl (Nat.le_of_ble_eq_true rfl) dX4_print_7 ⟨Nat.le_of_ble_eq_true rfl, Nat.le_of_ble_eq_true rfl⟩ (fun r7 g7 hp7 => ?_)
  obtain ⟨rfl, hg7⟩ := hp7
  rw [hg7]
  refine v_if_ne (tgt := 19) C dX4_print_10 (by decide) (fun h10 => ?_) (fun h10 => ?_)
  · have k10 := bI_1.mp h10
    refine v_iload_n C dX4_print_19 rfl rfl ?_
    refine v_iconst (v := 1) C dX4_print_20 (by decide) ?_
    refine v_sipush (v := 500) C dX4_print_21 (by decide) ?_
    refine v_callSi (n := 3) (as := [.int c, .int 1, .int 500]) C (c_isIn _ Z c 1 500 (wr g 0 0 0)) (gs (tg4 45 rfl rfl) (tg4 46 rfl rfl) (tg1 6 rfl rfl) (tg4 47 rfl rfl)) (by decide +kernel) ⟨Nat.le_of_ble_eq_true rfl, Nat.le_of_ble_eq_true rfl⟩ rfl rfl (Nat.le_of_ble_eq_true rfl) dX4_print_24 ⟨Nat.le_of_ble_eq_true rfl, Nat.le_of_ble_eq_true rfl⟩ (fun r24 g24 hp24 => ?_)
    obtain ⟨rfl, hg24⟩ := hp24
    rw [hg24]
    refine v_if_ne (tgt := 36) C dX4_print_27 (by decide) (fun h27 => ?_) (fun h27 => ?_)
    · have k27 := bI_1.mp h27
      obtain ⟨a, ha, rfl⟩ := isN_ex k10
      have ea : iz (nI a) = a := iz_nI (by omega)
      have hl := IvM_nl hI (show a < 6 by omega)
      refine v_aload_n C dX4_print_36 rfl rfl ?_
      refine v_get C inG4 rfl 15 (by decide) (tg3 210 rfl rfl) rfl cx_M rfl dX4_print_37 ?_
      refine v_iload_n C dX4_print_40 rfl rfl ?_
      refine v_ialdN (a := a) C cxA15 (by omega) dX4_print_41 ?_
      refine v_topi (y := g 15 a) rfl ?_
      refine v_if_ne (tgt := 51) C dX4_print_42 (by decide) (fun h42 => ?_) (fun h42 => ?_)
      · have hcd : cdPrint g (nI a) c = 0 := by unfold cdPrint; rw [enp, if_neg (by rw [k10]; decide), if_neg (by rw [k27]; decide), ea, if_neg h42]
        have h1 : g 15 a = 1 := (his a (by omega)).resolve_left h42
        have ht := IvM_t hI (show a < 6 by omega)
        refine v_iconst (v := 0) C dX4_print_51 (by decide) ?_
        refine v_topi (y := nI 0) rfl ?_
        refine v_istore_n (lo' := [some (.ref (Z.ad 0)), some (.int (nI a)), some (.int c), some (.int (nI 0))]) C dX4_print_52 rfl (Nat.le_of_ble_eq_true rfl) rfl rfl ?_
        have loop : ∀ (n k : Nat) (g1 : MG), 50 - k < n → k ≤ 50 → (∀ q, q ≠ 8 → g1 q = (wr g 0 0 0) q) → (∀ j, g1 8 j = if j < k then g 8 j + c * nI (outO g a (j / 10) (j % 10)) else g 8 j) → V P (rmz 3 62 0 0) Z [some (.ref (Z.ad 0)), some (.int (nI a)), some (.int c), some (.int (nI k))] 53 [] g1 0 0 := by
          intro n
          induction n with
          | zero => intro k g1 hn; exact absurd hn (Nat.not_lt_zero _)
          | succ n ih =>
            intro k g1 hn hk hr h8
            refine v_iload_n C dX4_print_53 rfl rfl ?_
            refine v_bipush (v := 50) C dX4_print_54 (by decide) ?_
            refine v_icmp_ge (tgt := 89) C dX4_print_56 (by decide) (fun h56 => ?_) (fun h56 => ?_)
            · have hkn : k = 50 := Nat.le_antisymm hk ((nI_leI (a := 50) (by decide) (by omega)).mp h56)
              subst hkn
              have hI1 : IvM g1 := IvM_eq hI (by rw [hr 0 (by decide)]; rfl) (by rw [hr 0 (by decide)]; rfl) (fun k h1 h2 => by rw [hr k (by omega)]; exact wr_row _ _ _ _ (by omega))
              refine v_aload_n C dX4_print_89 rfl rfl ?_
              refine v_iload_n C dX4_print_90 rfl rfl ?_
              refine v_callVi (n := 1) (as := [.int (nI a)]) C (c_proof _ Z a (nlO g a) (iz (g 12 a)) (wdO g) g1 (by omega) (by rw [hr 14 (by decide)]; exact hl.1) hl.2 (by rw [hr 17 (by decide)]; exact IvM_W hI) ht.2 (by rw [hr 12 (by decide)]; exact ht.1) (by rw [hr 15 (by decide), hr 18 (by decide)]; exact IvM_F hI (by omega)) (by rw [hr 15 (by decide)]; exact his a (by omega))) (gv (tg4 131 rfl rfl) (tg4 133 rfl rfl) (tg0 29 rfl rfl) (tg1 6 rfl rfl) (tg4 134 rfl rfl)) (by decide +kernel) ⟨Nat.le_of_ble_eq_true rfl, Nat.le_of_ble_eq_true rfl⟩ rfl cx_M rfl rfl (Nat.le_of_ble_eq_true rfl) dX4_print_91 ⟨Nat.le_of_ble_eq_true rfl, Nat.le_of_ble_eq_true rfl⟩ (fun r91 g91 hp91 => ?_)
              obtain ⟨hr91, hg91⟩ := hp91
              rw [hg91]
              have hr91 : r91 = prO g (wdO g) a (nlO g a) (iz (g 12 a)) := by rw [hr91]; unfold prO flO; rw [hr 15 (by decide), hr 5 (by decide), hr 18 (by decide), hr 10 (by decide), hr 11 (by decide), hr 19 (by decide)]; rfl
              subst hr91
              refine v_iload_n C dX4_print_94 rfl rfl ?_
              refine v_imul C dX4_print_95 ?_
              refine v_bipush (v := 100) C dX4_print_96 (by decide) ?_
              refine v_idiv C dX4_print_98 (by decide) ?_
              refine v_topi (y := gtO g a c) rfl ?_
              refine v_istore_n (lo' := [some (.ref (Z.ad 0)), some (.int (nI a)), some (.int c), some (.int (gtO g a c))]) C dX4_print_99 rfl (Nat.le_of_ble_eq_true rfl) rfl rfl ?_
              refine v_aload_n C dX4_print_100 rfl rfl ?_
              refine v_dup C dX4_print_101 rfl ?_
              refine v_get C inG4 rfl 3 (by decide) (tg3 198 rfl rfl) rfl cx_M rfl dX4_print_102 ?_
              refine v_topi (y := g 0 3) (by rw [hr 0 (by decide)]; rfl) ?_
              refine v_iload_n C dX4_print_105 rfl rfl ?_
              refine v_iadd C dX4_print_106 ?_
              refine v_put C inG4 rfl tyX4 tyX4_ok nmX4 3 (by decide) (tg3 198 rfl rfl) rfl rfl (ty := .int) rfl rfl rfl cx_M (Nat.le_of_ble_eq_true rfl) rfl (fun _ => Or.inl (by omega)) cx_M dX4_print_107 ?_
              refine v_aload_n C dX4_print_110 rfl rfl ?_
              refine v_get C inG4 rfl 16 (by decide) (tg3 211 rfl rfl) rfl cx_M rfl dX4_print_111 ?_
              refine v_iload_n C dX4_print_114 rfl rfl ?_
              refine v_dup2 C dX4_print_115 rfl rfl ?_
              refine v_ialdN (a := a) C cxA16 (by omega) dX4_print_116 ?_
              refine v_topi (y := g 16 a) (by rw [wr_row _ _ _ _ (by decide), hr 16 (by decide)]; rfl) ?_
              refine v_iload_n C dX4_print_117 rfl rfl ?_
              refine v_iadd C dX4_print_118 ?_
              refine v_iastN (a := a) C (fun _ _ => cxA16) rfl (by omega) (by omega) dX4_print_119 ?_
              refine v_iload_n C dX4_print_120 rfl rfl ?_
              exact ret _ _ _ _ dX4_print_121 ⟨by rw [hcd, wr_row _ _ _ _ (by decide), wr_ne _ _ _ _ (Or.inr (by decide)), hr 0 (by decide)]; rfl, fun _ => by rw [ea], by unfold stPrint; rw [if_pos hcd, ea]; exact ⟨fun j h1 h2 => by simp only [wr, rwr, hr 0 (show 0 ≠ 8 by decide)]; repeat' (first | rfl | (exfalso; omega) | split), fun q h1 h2 => by by_cases h16 : q = 16; (· subst h16; rw [wr_own, wr_own, wr_row _ _ _ _ (by decide), wr_row _ _ _ _ (by decide), rwr_ne _ _ _ (by decide), hr 16 (by decide)]; rfl); (· rw [wr_row _ _ _ _ h16, wr_row _ _ _ _ h16, wr_row _ _ _ _ (by omega), wr_row _ _ _ _ (by omega)]; by_cases h88 : q = 8; (· subst h88; rw [rwr_same]; exact funext h8); (· rw [rwr_ne _ _ _ h88, hr q h88]; exact wr_row _ _ _ _ (by omega))), fun p k _ _ _ => by simp only [wr, rwr, hr 18 (show 18 ≠ 8 by decide), hr 19 (show 19 ≠ 8 by decide), hr 20 (show 20 ≠ 8 by decide)]; exact ⟨rfl, rfl, rfl⟩⟩, fun q hq => by rw [wr_row _ _ _ _ (by omega), wr_row _ _ _ _ (by omega), hr q (by omega)]; exact wr_row _ _ _ _ (by omega)⟩
            · have hkn : k < 50 := Nat.lt_of_not_le fun q => h56 ((nI_leI (a := 50) (by decide) (by omega)).mpr q)
              refine v_aload_n C dX4_print_59 rfl rfl ?_
              refine v_get C inG4 rfl 8 (by decide) (tg3 203 rfl rfl) rfl cx_M rfl dX4_print_60 ?_
              refine v_iload_n C dX4_print_63 rfl rfl ?_
              refine v_dup2 C dX4_print_64 rfl rfl ?_
              refine v_ialdN (a := k) C cxA8 (by omega) dX4_print_65 ?_
              refine v_topi (y := g 8 k) (by rw [h8, if_neg (by omega)]) ?_
              refine v_iload_n C dX4_print_66 rfl rfl ?_
              refine v_aload_n C dX4_print_67 rfl rfl ?_
              refine v_iload_n C dX4_print_68 rfl rfl ?_
              refine v_iload_n C dX4_print_69 rfl rfl ?_
              refine v_bipush (v := 10) C dX4_print_70 (by decide) ?_
              refine v_idiv C dX4_print_72 (by decide) ?_
              refine v_topi (y := nI (k / 10)) (nI_div (b := 10) (by omega) (by decide)) ?_
              refine v_iload_n C dX4_print_73 rfl rfl ?_
              refine v_bipush (v := 10) C dX4_print_74 (by decide) ?_
              refine v_irem C dX4_print_76 (by decide) ?_
              refine v_topi (y := nI (k % 10)) (nI_mod10 (by omega)) ?_
              refine v_callVi (n := 3) (as := [.int (nI a), .int (nI (k / 10)), .int (nI (k % 10))]) C (c_outOf _ Z a (nlO g a) (k / 10) (k % 10) (wdO g) (tkO g) g1 (by omega) (by rw [hr 14 (by decide)]; exact hl.1) hl.2 (by rw [hr 17 (by decide)]; exact IvM_W hI) (by omega) (by omega) (by rw [hr 20 (by decide)]; exact IvM_T hI (by omega) h1)) (gv (tg4 127 rfl rfl) (tg4 129 rfl rfl) (tg0 28 rfl rfl) (tg1 6 rfl rfl) (tg4 130 rfl rfl)) (by decide +kernel) ⟨Nat.le_of_ble_eq_true rfl, Nat.le_of_ble_eq_true rfl⟩ rfl cx_M rfl rfl (Nat.le_of_ble_eq_true rfl) dX4_print_77 ⟨Nat.le_of_ble_eq_true rfl, Nat.le_of_ble_eq_true rfl⟩ (fun r77 g77 hp77 => ?_)
              obtain ⟨hr77, hg77⟩ := hp77
              rw [hg77]
              have hr77 : r77 = nI (outO g a (k / 10) (k % 10)) := by rw [hr77, hr 18 (by decide)]; rfl
              subst hr77
              refine v_imul C dX4_print_80 ?_
              refine v_iadd C dX4_print_81 ?_
              refine v_iastN (a := k) C (fun _ _ => cxA8) rfl (by omega) (by omega) dX4_print_82 ?_
              refine v_iinc (lo' := [some (.ref (Z.ad 0)), some (.int (nI a)), some (.int c), some (.int ((nI k) + 1))]) C dX4_print_83 rfl rfl rfl rfl ?_
              refine v_lo (lo' := [some (.ref (Z.ad 0)), some (.int (nI a)), some (.int c), some (.int (nI (k + 1)))]) (by rw [← nI_1 k]) ?_
              refine v_goto (tgt := 53) C dX4_print_86 (by decide) ?_
              exact ih (k + 1) _ (by omega) (by omega) (fun q hq => by rw [wr_row _ _ _ _ hq]; exact hr q hq) (fun j => by by_cases hj : j = k; (· rw [hj, wr_same, if_pos (by omega)]); (· rw [wr_ne _ _ _ _ (Or.inr hj), h8]; by_cases hc : j < k; (· rw [if_pos hc, if_pos (by omega)]); (· rw [if_neg hc, if_neg (by omega)])))
        exact loop 51 0 _ (by omega) (by omega) (fun _ _ => rfl) (fun j => by rw [if_neg (Nat.not_lt_zero j)]; rfl)
      · refine v_aload_n C dX4_print_45 rfl rfl ?_
        refine v_iconst (v := 3) C dX4_print_46 (by decide) ?_
        refine v_callVi (n := 1) (as := [.int 3]) C (c_no _ Z 3 (wr g 0 0 0)) (gv (tg4 48 rfl rfl) (tg4 50 rfl rfl) (tg0 20 rfl rfl) (tg1 6 rfl rfl) (tg4 51 rfl rfl)) (by decide +kernel) ⟨Nat.le_of_ble_eq_true rfl, Nat.le_of_ble_eq_true rfl⟩ rfl cx_M rfl rfl (Nat.le_of_ble_eq_true rfl) dX4_print_47 ⟨Nat.le_of_ble_eq_true rfl, Nat.le_of_ble_eq_true rfl⟩ (fun r47 g47 hp47 => ?_)
        obtain ⟨rfl, hg47⟩ := hp47
        rw [hg47]
        exact ret _ _ _ _ dX4_print_50 (PM.no (k := 3) (by unfold cdPrint; rw [enp, if_neg (by rw [k10]; decide), if_neg (by rw [k27]; decide), ea, if_pos h42]) (by decide) (by unfold stPrint; rw [if_neg (by rw [show cdPrint g (nI a) c = 3 by unfold cdPrint; rw [enp, if_neg (by rw [k10]; decide), if_neg (by rw [k27]; decide), ea, if_pos h42]]; decide)]) (fun j h1 h2 => wr_ne _ _ _ _ (Or.inr (by omega))) (fun q h1 h2 => wr_row _ _ _ _ (by omega)) (fun q hq => wr_row _ _ _ _ (by omega)))
    · have k27 := bI_0.mp h27
      refine v_aload_n C dX4_print_30 rfl rfl ?_
      refine v_iconst (v := 2) C dX4_print_31 (by decide) ?_
      refine v_callVi (n := 1) (as := [.int 2]) C (c_no _ Z 2 (wr g 0 0 0)) (gv (tg4 48 rfl rfl) (tg4 50 rfl rfl) (tg0 20 rfl rfl) (tg1 6 rfl rfl) (tg4 51 rfl rfl)) (by decide +kernel) ⟨Nat.le_of_ble_eq_true rfl, Nat.le_of_ble_eq_true rfl⟩ rfl cx_M rfl rfl (Nat.le_of_ble_eq_true rfl) dX4_print_32 ⟨Nat.le_of_ble_eq_true rfl, Nat.le_of_ble_eq_true rfl⟩ (fun r32 g32 hp32 => ?_)
      obtain ⟨rfl, hg32⟩ := hp32
      rw [hg32]
      exact ret _ _ _ _ dX4_print_35 (PM.no (k := 2) (by unfold cdPrint; rw [enp, if_neg (by rw [k10]; decide), if_pos k27]) (by decide) (by unfold stPrint; rw [if_neg (by rw [show cdPrint g p c = 2 by unfold cdPrint; rw [enp, if_neg (by rw [k10]; decide), if_pos k27]]; decide)]) (fun j h1 h2 => wr_ne _ _ _ _ (Or.inr (by omega))) (fun q h1 h2 => wr_row _ _ _ _ (by omega)) (fun q hq => wr_row _ _ _ _ (by omega)))
  · have k10 := bI_0.mp h10
    refine v_aload_n C dX4_print_13 rfl rfl ?_
    refine v_iconst (v := 1) C dX4_print_14 (by decide) ?_
    refine v_callVi (n := 1) (as := [.int 1]) C (c_no _ Z 1 (wr g 0 0 0)) (gv (tg4 48 rfl rfl) (tg4 50 rfl rfl) (tg0 20 rfl rfl) (tg1 6 rfl rfl) (tg4 51 rfl rfl)) (by decide +kernel) ⟨Nat.le_of_ble_eq_true rfl, Nat.le_of_ble_eq_true rfl⟩ rfl cx_M rfl rfl (Nat.le_of_ble_eq_true rfl) dX4_print_15 ⟨Nat.le_of_ble_eq_true rfl, Nat.le_of_ble_eq_true rfl⟩ (fun r15 g15 hp15 => ?_)
    obtain ⟨rfl, hg15⟩ := hp15
    rw [hg15]
    exact ret _ _ _ _ dX4_print_18 (PM.no (k := 1) (by unfold cdPrint; rw [enp, if_pos k10]) (by decide) (by unfold stPrint; rw [if_neg (by rw [show cdPrint g p c = 1 by unfold cdPrint; rw [enp, if_pos k10]]; decide)]) (fun j h1 h2 => wr_ne _ _ _ _ (Or.inr (by omega))) (fun q h1 h2 => wr_row _ _ _ _ (by omega)) (fun q hq => wr_row _ _ _ _ (by omega)))
