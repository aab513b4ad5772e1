/-! THE LAW'S METHODS that try: what a line takes -/
set_option maxRecDepth 100000 in
theorem l_take (l : Launch) (Z : Zc) (ad : Nat → Nat) (m g : MG) (T : Nat) (hF : Fr m T) (A B n t : Nat) (fr ot : Nat → Int32) (hT : T + 2 ≤ 1200) (hT7 : 700 ≤ T) (hS : m 600 100000 = 6 ∧ m 600 4 = nI 603) (hO : isA m 603 10 ∧ ∀ j, j < 10 → m 603 j = ot j) (hot : otI ot) (hAr : 600 ≤ A ∧ A < T) (hn : n ≤ 8) (hA : LtR m A n t) (hBr : 600 ≤ B ∧ B < T) (hB : isA m B 10) (hfr : ∀ d, d < 10 → m B d = fr d) : LMq l yX5_take cX5_take 7 (some (.array .int)) (rmz 1 40 2 20) Z [.ref (ad 600), .ref (ad A), .ref (ad B)] ad m g (fun v ad' m' g' => tkQ (tlR (okF fr) ot t n ts0) v ad' m m' T n A ∧ (∀ k, k < T → ad' k = ad k) ∧ g' = g) := by
  have h6 := hF.1.1
  refine ent_lq (own := RX5) (lo := [some (.ref (ad 600)), some (.ref (ad A)), some (.ref (ad B)), none, none, none, none]) (Or.inr ⟨_, rfl⟩) (by decide) rfl (by simp [lg_sl, Value.category]) rfl (fun P hl C hW9 ret => ?_)
  have loop : ∀ (ad1 : Nat → Nat), (∀ k, k < T → ad1 k = ad k) → ∀ (d k : Nat) (s : TS) (r1 r2 : Nat → Int32) (a : Nat) (v6 : Option Value), n - k < d → k ≤ n → TkI (okF fr) ot t n fr (m A) k s r1 r2 a → V P (rmz 1 40 2 20) (Z.wl ad1 (M2 m T r1 r2)) [some (.ref (ad1 600)), some (.ref (ad1 A)), some (.ref (ad1 B)), some (.ref (ad1 T)), some (.ref (ad1 (T + 1))), some (.int (nI k)), v6] 17 [] g 2 20 := by
    intro ad1 hA1 d
    induction d with
    | zero => intro k s r1 r2 a v6 hnk; exact absurd hnk (Nat.not_lt_zero _)
    | succ d ih =>
      intro k s r1 r2 a v6 hnk hk hI
      obtain ⟨j1, j2, ⟨j3, j4⟩, ⟨j5, j6⟩, j7, j8, j9, j10⟩ := id hI
      refine v_iload (C.wl _ _) dX5_take_17 rfl ?_
      refine v_aload_n (C.wl _ _) dX5_take_19 rfl rfl ?_
      refine l_len (k := A) (n := n) C ⟨hAr.1, by omega⟩ (Or.inl ((congrFun (M2_o _ _ _ _ (by omega)) _).trans hA.1.1)) ((congrFun (M2_o _ _ _ _ (by omega)) _).trans hA.1.2) (by omega) dX5_take_20 ?_
      refine v_icmp_ge (tgt := 87) (C.wl _ _) dX5_take_21 (by decide) (fun h21 => ?_) (fun h21 => ?_)
      · have hkn21 : k = n := Nat.le_antisymm hk ((nI_leI (by omega) (by omega)).mp h21)
        refine v_aload (C.wl _ _) dX5_take_87 rfl ?_
        subst hkn21
        have hres : tlR (okF fr) ot t k ts0 = some s := by rw [j1, Nat.sub_self]; rfl
        have hF9 : Fr (rwr m T r2) (T + 1) := hF.new (by omega) (fun j hj => by rw [j5] at hj; exact absurd hj (by simp [isrf]))
        refine v_st (st' := [va_rf (some (upN ad1 T (ad1 (T + 1)) T))]) (by rw [upN_s]; rfl) ?_
        refine l_map (ad' := upN ad1 T (ad1 (T + 1))) (m' := rwr m T r2) (fun q => if q = T then T + 1 else q) (fun q hq => upN_o _ (by omega)) (fun q q1 q2 hq => ?_) (fun x y x1 x2 y1 y2 hx hy hxy => ?_) ?_
        · have hqT : q < T + 1 := Nat.lt_of_not_le fun z => hq (hF9.2.1 q z)
          by_cases hq2 : q = T
          · subst hq2
            rw [if_pos rfl, rwr_same, M2_b, upN_s]
            exact ⟨⟨by omega, by omega⟩, by rw [cW_1 j5 j6 (by omega), cW_1 j5 j6 (by omega)], rfl⟩
          · rw [if_neg hq2, rwr_ne _ _ _ hq2, M2_o _ _ _ _ (by omega), upN_o _ hq2]
            exact ⟨⟨q1, q2⟩, cW_rf (m' := Z.Y.m) (hF.2.2 q q1 (by omega)) (fun z _ hz => upN_o _ (by omega)), rfl⟩
        · have hx1 : x < T + 1 := Nat.lt_of_not_le fun z => hx (hF9.2.1 x z)
          have hy1 : y < T + 1 := Nat.lt_of_not_le fun z => hy (hF9.2.1 y z)
          have hxy : (if x = T then T + 1 else x) = (if y = T then T + 1 else y) := hxy
          by_cases h1 : x = T
          · rw [if_pos h1] at hxy; by_cases h2 : y = T; (· rw [h1, h2]); (· rw [if_neg h2] at hxy; omega)
          · rw [if_neg h1] at hxy; by_cases h2 : y = T; (· rw [if_pos h2] at hxy; omega); (· rw [if_neg h2] at hxy; exact hxy)
        exact ret _ _ _ _ _ _ dX5_take_89 ⟨by rw [hres]; exact ⟨r2, a, rfl, rfl, ⟨j5, j6⟩, j7, j8, j9, j10, hF9⟩, fun q hq => by rw [upN_o _ (by omega), hA1 q hq], rfl⟩
      · have hkn21 : k < n := Nat.lt_of_not_le fun q => h21 ((nI_leI (by omega) (by omega)).mpr q)
        have hdg : (t / 10 ^ (n - 1 - k) % 10) < 10 := Nat.mod_lt _ (by decide)
        have hAk : m A k = nI (t / 10 ^ (n - 1 - k) % 10) := hA.2 k hkn21
        refine v_aload_n (C.wl _ _) dX5_take_24 rfl rfl ?_
        refine v_aload_n (C.wl _ _) dX5_take_25 rfl rfl ?_
        refine v_iload (C.wl _ _) dX5_take_26 rfl ?_
        refine l_iald (k := A) (n := n) (a := k) C ⟨hAr.1, by omega⟩ ((congrFun (M2_o _ _ _ _ (by omega)) _).trans hA.1.1) ((congrFun (M2_o _ _ _ _ (by omega)) _).trans hA.1.2) (by omega) dX5_take_28 ?_
        refine v_topi (y := nI (t / 10 ^ (n - 1 - k) % 10)) ((congrFun (M2_o _ _ _ _ (by omega)) _).trans hAk) ?_
        refine l_iald (k := T) (n := 10) (a := (t / 10 ^ (n - 1 - k) % 10)) C ⟨by omega, by omega⟩ ((congrFun (M2_a _ _ _ _) _).trans hI.2.2.1.1) ((congrFun (M2_a _ _ _ _) _).trans hI.2.2.1.2) ⟨hdg, by decide⟩ dX5_take_29 ?_
        refine v_topi (y := fr (t / 10 ^ (n - 1 - k) % 10) - s.1 (t / 10 ^ (n - 1 - k) % 10)) ((congrFun (M2_a _ _ _ _) _).trans (j2 _ hdg)) ?_
        refine v_if_le (tgt := 40) (C.wl _ _) dX5_take_30 (by decide) (fun h30 => ?_) (fun h30 => ?_)
        · refine v_aload_n (C.wl _ _) dX5_take_40 rfl rfl ?_
          refine l_get (k := 600) C inG5 (ci := 6) rfl 4 (by decide) (tg5 9 rfl rfl) rfl ⟨by decide, by decide⟩ (cW_6 ((congrFun (M2_o _ _ _ _ (by omega)) _).trans hS.1)) (sm_r (by decide) ((congrFun (M2_o _ _ _ _ (by omega)) _).trans hS.2) ⟨by decide, by decide⟩) dX5_take_41 ?_
          refine v_aload_n (C.wl _ _) dX5_take_44 rfl rfl ?_
          refine v_iload (C.wl _ _) dX5_take_45 rfl ?_
          refine l_iald (k := A) (n := n) (a := k) C ⟨hAr.1, by omega⟩ ((congrFun (M2_o _ _ _ _ (by omega)) _).trans hA.1.1) ((congrFun (M2_o _ _ _ _ (by omega)) _).trans hA.1.2) (by omega) dX5_take_47 ?_
          refine v_topi (y := nI (t / 10 ^ (n - 1 - k) % 10)) ((congrFun (M2_o _ _ _ _ (by omega)) _).trans hAk) ?_
          refine l_iald (k := 603) (n := 10) (a := (t / 10 ^ (n - 1 - k) % 10)) C ⟨by decide, by decide⟩ ((congrFun (M2_o _ _ _ _ (by omega)) _).trans hO.1.1) ((congrFun (M2_o _ _ _ _ (by omega)) _).trans hO.1.2) ⟨hdg, by decide⟩ dX5_take_48 ?_
          have hneg : ¬ 0 < fr (t / 10 ^ (n - 1 - k) % 10) - s.1 (t / 10 ^ (n - 1 - k) % 10) := by rw [i_le] at h30; rw [i_lt]; omega
          refine v_topi (y := ot (t / 10 ^ (n - 1 - k) % 10)) ((congrFun (M2_o _ _ _ _ (by omega)) _).trans (hO.2 _ hdg)) ?_
          rcases hot _ hdg with hoe | ⟨o, ho, hod, hoe⟩
          · rw [hoe]
            refine v_istore (lo' := [some (.ref (ad1 600)), some (.ref (ad1 A)), some (.ref (ad1 B)), some (.ref (ad1 T)), some (.ref (ad1 (T + 1))), some (.int (nI k)), some (.int (-1))]) (C.wl _ _) dX5_take_49 (Nat.le_of_ble_eq_true rfl) rfl rfl ?_
            refine v_iload (C.wl _ _) dX5_take_51 rfl ?_
            refine v_if_lt (tgt := 64) (C.wl _ _) dX5_take_53 (by decide) (fun h53 => ?_) (fun h53 => ?_)
            · refine v_null (C.wl _ _) dX5_take_64 ?_
              have hno : tlR (okF fr) ot t n ts0 = none := hI.none hkn21 (tl1_no hneg (Or.inl hoe))
              refine l_drop (ad0 := ad1) hF (fun _ _ => rfl) (fun q _ hq => M2_o _ _ _ _ hq) ?_
              exact ret _ _ none _ _ _ dX5_take_65 ⟨by rw [hno]; exact ⟨rfl, rfl⟩, hA1, rfl⟩
            · exact absurd (by decide) h53
          · rw [hoe]
            refine v_istore (lo' := [some (.ref (ad1 600)), some (.ref (ad1 A)), some (.ref (ad1 B)), some (.ref (ad1 T)), some (.ref (ad1 (T + 1))), some (.int (nI k)), some (.int (nI o))]) (C.wl _ _) dX5_take_49 (Nat.le_of_ble_eq_true rfl) rfl rfl ?_
            refine v_iload (C.wl _ _) dX5_take_51 rfl ?_
            refine v_if_lt (tgt := 64) (C.wl _ _) dX5_take_53 (by decide) (fun h53 => ?_) (fun h53 => ?_)
            · exact absurd h53 (nI_pos (by omega))
            · refine v_aload_n (C.wl _ _) dX5_take_56 rfl rfl ?_
              refine v_iload (C.wl _ _) dX5_take_57 rfl ?_
              refine l_iald (k := T) (n := 10) (a := o) C ⟨by omega, by omega⟩ ((congrFun (M2_a _ _ _ _) _).trans hI.2.2.1.1) ((congrFun (M2_a _ _ _ _) _).trans hI.2.2.1.2) ⟨ho, by decide⟩ dX5_take_59 ?_
              refine v_topi (y := fr o - s.1 o) ((congrFun (M2_a _ _ _ _) _).trans (j2 _ ho)) ?_
              refine v_iconst (v := 1) (C.wl _ _) dX5_take_60 (by decide) ?_
              refine v_icmp_ge (tgt := 66) (C.wl _ _) dX5_take_61 (by decide) (fun h61 => ?_) (fun h61 => ?_)
              · have hpos : 0 < fr o - s.1 o := by rw [i_le] at h61; rw [i_lt]; have z0 : (0 : Int32).toInt = 0 := rfl; have z1 : (1 : Int32).toInt = 1 := rfl; omega
                refine v_aload_n (C.wl _ _) dX5_take_66 rfl rfl ?_
                refine v_iload (C.wl _ _) dX5_take_67 rfl ?_
                refine v_dup2 (C.wl _ _) dX5_take_69 rfl rfl ?_
                refine l_iald (k := T) (n := 10) (a := o) C ⟨by omega, by omega⟩ ((congrFun (M2_a _ _ _ _) _).trans hI.2.2.1.1) ((congrFun (M2_a _ _ _ _) _).trans hI.2.2.1.2) ⟨ho, by decide⟩ dX5_take_70 ?_
                refine v_iconst (v := 1) (C.wl _ _) dX5_take_71 (by decide) ?_
                refine v_isub (C.wl _ _) dX5_take_72 ?_
                refine l_iast (k := T) (n := 10) (a := o) C ⟨by omega, by omega⟩ ((congrFun (M2_a _ _ _ _) _).trans hI.2.2.1.1) ((congrFun (M2_a _ _ _ _) _).trans hI.2.2.1.2) ⟨ho, by decide⟩ dX5_take_73 ?_
                refine v_aload (C.wl _ _) dX5_take_74 rfl ?_
                refine v_iload (C.wl _ _) dX5_take_76 rfl ?_
                refine v_iload (C.wl _ _) dX5_take_78 rfl ?_
                refine l_iast (k := T + 1) (n := n) (a := k) C ⟨by omega, by omega⟩ ((wr_ne _ _ _ _ (by omega)).trans ((congrFun (M2_b _ _ _ _) _).trans hI.2.2.2.1.1)) ((wr_ne _ _ _ _ (by omega)).trans ((congrFun (M2_b _ _ _ _) _).trans hI.2.2.2.1.2)) (by omega) dX5_take_80 ?_
                refine v_iinc (lo' := [some (.ref (ad1 600)), some (.ref (ad1 A)), some (.ref (ad1 B)), some (.ref (ad1 T)), some (.ref (ad1 (T + 1))), some (.int ((nI k) + 1)), some (.int (nI o))]) (C.wl _ _) dX5_take_81 rfl rfl rfl rfl ?_
                refine v_goto (tgt := 17) (C.wl _ _) dX5_take_84 (by decide) ?_
                have hst := hI.step hkn21 (by omega) (o := o) ho hAk (tl1_oth hneg ho hod hoe hpos)
                refine v_lo (lo' := [some (.ref (ad1 600)), some (.ref (ad1 A)), some (.ref (ad1 B)), some (.ref (ad1 T)), some (.ref (ad1 (T + 1))), some (.int (nI (k + 1))), some (.int (nI o))]) (by rw [nI_succ k]) ?_
                have e9 : wr (wr (M2 m T r1 r2) T o (((M2 m T r1 r2) T o) - 1)) (T + 1) k (nI o) = M2 m T (upd r1 o (r1 o - 1)) (upd r2 k (nI o)) := by rw [M2_a, wr_M2a, wr_M2b]
                rw [e9]
                exact ih (k + 1) _ _ _ _ _ (by omega) (by omega) hst
              · have hng2 : ¬ 0 < fr o - s.1 o := fun z => h61 (by rw [i_lt] at z; rw [i_le]; have z0 : (0 : Int32).toInt = 0 := rfl; have z1 : (1 : Int32).toInt = 1 := rfl; omega)
                refine v_null (C.wl _ _) dX5_take_64 ?_
                have hno : tlR (okF fr) ot t n ts0 = none := hI.none hkn21 (tl1_no hneg (Or.inr ⟨o, ho, hoe, hng2⟩))
                refine l_drop (ad0 := ad1) hF (fun _ _ => rfl) (fun q _ hq => M2_o _ _ _ _ hq) ?_
                exact ret _ _ none _ _ _ dX5_take_65 ⟨by rw [hno]; exact ⟨rfl, rfl⟩, hA1, rfl⟩
        · refine v_aload_n (C.wl _ _) dX5_take_33 rfl rfl ?_
          refine v_iload (C.wl _ _) dX5_take_34 rfl ?_
          refine l_iald (k := A) (n := n) (a := k) C ⟨hAr.1, by omega⟩ ((congrFun (M2_o _ _ _ _ (by omega)) _).trans hA.1.1) ((congrFun (M2_o _ _ _ _ (by omega)) _).trans hA.1.2) (by omega) dX5_take_36 ?_
          refine v_topi (y := nI (t / 10 ^ (n - 1 - k) % 10)) ((congrFun (M2_o _ _ _ _ (by omega)) _).trans hAk) ?_
          refine v_goto (tgt := 49) (C.wl _ _) dX5_take_37 (by decide) ?_
          have hpos : 0 < fr (t / 10 ^ (n - 1 - k) % 10) - s.1 (t / 10 ^ (n - 1 - k) % 10) := by rw [i_le] at h30; rw [i_lt]; omega
          refine v_istore (lo' := [some (.ref (ad1 600)), some (.ref (ad1 A)), some (.ref (ad1 B)), some (.ref (ad1 T)), some (.ref (ad1 (T + 1))), some (.int (nI k)), some (.int (nI (t / 10 ^ (n - 1 - k) % 10)))]) (C.wl _ _) dX5_take_49 (Nat.le_of_ble_eq_true rfl) rfl rfl ?_
          refine v_iload (C.wl _ _) dX5_take_51 rfl ?_
          refine v_if_lt (tgt := 64) (C.wl _ _) dX5_take_53 (by decide) (fun h53 => ?_) (fun h53 => ?_)
          · exact absurd h53 (nI_pos (by omega))
          · refine v_aload_n (C.wl _ _) dX5_take_56 rfl rfl ?_
            refine v_iload (C.wl _ _) dX5_take_57 rfl ?_
            refine l_iald (k := T) (n := 10) (a := (t / 10 ^ (n - 1 - k) % 10)) C ⟨by omega, by omega⟩ ((congrFun (M2_a _ _ _ _) _).trans hI.2.2.1.1) ((congrFun (M2_a _ _ _ _) _).trans hI.2.2.1.2) ⟨hdg, by decide⟩ dX5_take_59 ?_
            refine v_topi (y := fr (t / 10 ^ (n - 1 - k) % 10) - s.1 (t / 10 ^ (n - 1 - k) % 10)) ((congrFun (M2_a _ _ _ _) _).trans (j2 _ hdg)) ?_
            refine v_iconst (v := 1) (C.wl _ _) dX5_take_60 (by decide) ?_
            refine v_icmp_ge (tgt := 66) (C.wl _ _) dX5_take_61 (by decide) (fun h61 => ?_) (fun h61 => ?_)
            · refine v_aload_n (C.wl _ _) dX5_take_66 rfl rfl ?_
              refine v_iload (C.wl _ _) dX5_take_67 rfl ?_
              refine v_dup2 (C.wl _ _) dX5_take_69 rfl rfl ?_
              refine l_iald (k := T) (n := 10) (a := (t / 10 ^ (n - 1 - k) % 10)) C ⟨by omega, by omega⟩ ((congrFun (M2_a _ _ _ _) _).trans hI.2.2.1.1) ((congrFun (M2_a _ _ _ _) _).trans hI.2.2.1.2) ⟨hdg, by decide⟩ dX5_take_70 ?_
              refine v_iconst (v := 1) (C.wl _ _) dX5_take_71 (by decide) ?_
              refine v_isub (C.wl _ _) dX5_take_72 ?_
              refine l_iast (k := T) (n := 10) (a := (t / 10 ^ (n - 1 - k) % 10)) C ⟨by omega, by omega⟩ ((congrFun (M2_a _ _ _ _) _).trans hI.2.2.1.1) ((congrFun (M2_a _ _ _ _) _).trans hI.2.2.1.2) ⟨hdg, by decide⟩ dX5_take_73 ?_
              refine v_aload (C.wl _ _) dX5_take_74 rfl ?_
              refine v_iload (C.wl _ _) dX5_take_76 rfl ?_
              refine v_iload (C.wl _ _) dX5_take_78 rfl ?_
              refine l_iast (k := T + 1) (n := n) (a := k) C ⟨by omega, by omega⟩ ((wr_ne _ _ _ _ (by omega)).trans ((congrFun (M2_b _ _ _ _) _).trans hI.2.2.2.1.1)) ((wr_ne _ _ _ _ (by omega)).trans ((congrFun (M2_b _ _ _ _) _).trans hI.2.2.2.1.2)) (by omega) dX5_take_80 ?_
              refine v_iinc (lo' := [some (.ref (ad1 600)), some (.ref (ad1 A)), some (.ref (ad1 B)), some (.ref (ad1 T)), some (.ref (ad1 (T + 1))), some (.int ((nI k) + 1)), some (.int (nI (t / 10 ^ (n - 1 - k) % 10)))]) (C.wl _ _) dX5_take_81 rfl rfl rfl rfl ?_
              refine v_goto (tgt := 17) (C.wl _ _) dX5_take_84 (by decide) ?_
              have hst := hI.step hkn21 (by omega) (o := (t / 10 ^ (n - 1 - k) % 10)) hdg hAk (tl1_own hpos)
              refine v_lo (lo' := [some (.ref (ad1 600)), some (.ref (ad1 A)), some (.ref (ad1 B)), some (.ref (ad1 T)), some (.ref (ad1 (T + 1))), some (.int (nI (k + 1))), some (.int (nI (t / 10 ^ (n - 1 - k) % 10)))]) (by rw [nI_succ k]) ?_
              have e9 : wr (wr (M2 m T r1 r2) T (t / 10 ^ (n - 1 - k) % 10) (((M2 m T r1 r2) T (t / 10 ^ (n - 1 - k) % 10)) - 1)) (T + 1) k (nI (t / 10 ^ (n - 1 - k) % 10)) = M2 m T (upd r1 (t / 10 ^ (n - 1 - k) % 10) (r1 (t / 10 ^ (n - 1 - k) % 10) - 1)) (upd r2 k (nI (t / 10 ^ (n - 1 - k) % 10))) := by rw [M2_a, wr_M2a, wr_M2b]
              rw [e9]
              exact ih (k + 1) _ _ _ _ _ (by omega) (by omega) hst
            · exact absurd (show (1 : Int32) ≤ _ from by rw [i_lt] at hpos; rw [i_le]; have z0 : (0 : Int32).toInt = 0 := rfl; have z1 : (1 : Int32).toInt = 1 := rfl; omega) h61
  refine v_aload_n (C.wl _ _) dX5_take_0 rfl rfl ?_
  refine l_clone (T := T) (k := B) (n := 10) C hW9.L hF (by omega) ⟨hBr.1, by omega⟩ hB.1 hB.2 (by decide) (tg2 219 rfl rfl) (Nat.le_of_ble_eq_true rfl) (Nat.le_of_ble_eq_true rfl) (Nat.le_of_ble_eq_true rfl) (Nat.le_of_ble_eq_true rfl) dX5_take_1 (fun ad1 hA1 => ?_)
  have hF1 : Fr (rwr m T (m B)) (T + 1) := hF.new (by omega) (fun j hj => by rw [hB.1] at hj; exact absurd hj (by simp [isrf]))
  refine v_lo (lo' := [some (.ref (ad1 600)), some (.ref (ad1 A)), some (.ref (ad1 B)), none, none, none, none]) (by rw [hA1 600 (by omega), hA1 A (by omega), hA1 B (by omega)]) ?_
  refine l_castA (k := T) (n := 10) C ⟨by omega, by omega⟩ ((congrFun (rwr_same _ _ _) _).trans hB.1) ((congrFun (rwr_same _ _ _) _).trans hB.2) (by decide) (tg2 213 rfl rfl) dX5_take_4 ?_
  refine v_astore_n (lo' := [some (.ref (ad1 600)), some (.ref (ad1 A)), some (.ref (ad1 B)), some (.ref (ad1 T)), none, none, none]) (C.wl _ _) dX5_take_7 rfl (Nat.le_of_ble_eq_true rfl) rfl rfl ?_
  refine v_aload_n (C.wl _ _) dX5_take_8 rfl rfl ?_
  refine l_len (k := A) (n := n) C ⟨hAr.1, by omega⟩ (Or.inl ((congrFun (rwr_ne _ _ _ (by omega)) _).trans hA.1.1)) ((congrFun (rwr_ne _ _ _ (by omega)) _).trans hA.1.2) (by omega) dX5_take_9 ?_
  refine l_newi (T := T + 1) (N := n) C hF1 (by omega) (by omega) dX5_take_10 (Nat.le_of_ble_eq_true rfl) (by show 0 + 10 + n ≤ 20; omega) (fun ad10 hA10 => ?_)
  have hF10 := hF1.new (by omega) (rN_R (kd := 1) (n := n) (by omega) (by decide) (by omega))
  refine v_lo (lo' := [some (.ref (ad10 600)), some (.ref (ad10 A)), some (.ref (ad10 B)), some (.ref (ad10 T)), none, none, none]) (by rw [hA10 600 (by omega), hA10 A (by omega), hA10 B (by omega), hA10 T (by omega)]) ?_
  refine v_astore (lo' := [some (.ref (ad10 600)), some (.ref (ad10 A)), some (.ref (ad10 B)), some (.ref (ad10 T)), some (.ref (ad10 (T + 1))), none, none]) (C.wl _ _) dX5_take_12 (Nat.le_of_ble_eq_true rfl) rfl rfl ?_
  refine v_iconst (v := 0) (C.wl _ _) dX5_take_14 (by decide) ?_
  refine v_istore (lo' := [some (.ref (ad10 600)), some (.ref (ad10 A)), some (.ref (ad10 B)), some (.ref (ad10 T)), some (.ref (ad10 (T + 1))), some (.int 0), none]) (C.wl _ _) dX5_take_15 (Nat.le_of_ble_eq_true rfl) rfl rfl ?_
  refine v_wide (k := 2) (n := 20) (Nat.le_of_ble_eq_true rfl) (by show 0 + 10 + n ≤ 20; omega) ?_
  have hI0 : TkI (okF fr) ot t n fr (m A) 0 ts0 (m B) (rN 1 n) 0 := ⟨rfl, fun d hd => by rw [hfr d hd]; show fr d = fr d - 0; rw [Int32.sub_zero], ⟨hB.1, hB.2⟩, ⟨rN_k _ _, rN_l _ _⟩, rfl, by decide, fun c hc => absurd hc (Nat.not_lt_zero _), rfl⟩
  exact loop _ (fun q hq => by rw [hA10 q (by omega), hA1 q (by omega)]) _ 0 _ _ _ _ _ (Nat.lt_succ_self _) (Nat.zero_le _) hI0
