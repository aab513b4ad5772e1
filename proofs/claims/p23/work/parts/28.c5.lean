/-! THE CLASS: the best fount of a line; the lines of a poster laid -/
def fvL (g : MG) (ot : Nat → Int32) (w f : Nat) : Int32 := trv (tlR (okL g f) ot w (szw w) ts0)
theorem okL_fr {g g' : MG} {p q : Nat} (h : frL g g' p q) {i : Nat} (hi : i < 5) : okL g' i = okL g i := by funext k x; unfold okL; rw [h.1 _ (by omega) (by omega)]
theorem fvL_fr {g g' : MG} {p q : Nat} (h : frL g g' p q) {ot : Nat → Int32} {w i : Nat} (hi : i < 5) : fvL g' ot w i = fvL g ot w i := by unfold fvL; rw [okL_fr h hi]
theorem tl_m1 {ok : Nat → Int32 → Bool} {ot : Nat → Int32} (hot : otI ot) {w : Nat} {s : TS} (h : tlR ok ot w (szw w) ts0 = some s) : ¬ s.2.1 = -1 := by
  obtain ⟨c, hc, he⟩ := (TSI_run hot w (szw w) 0 ts0 s TSI_0 h).2.1
  have := @szw_le w
  rw [he]; exact nI_m1 (by omega)
theorem btr_m1 {ht : Nat → Int32} {fl : Int32} {f : Nat} {least best : Int32} (h : fl = -1) : btr ht fl f least best = false := by unfold btr; rw [if_pos (Or.inl h), h]; rfl
theorem btr_b1 {ht : Nat → Int32} {fl : Int32} {f : Nat} {least best : Int32} (h : ¬ fl = -1) (h2 : best = -1) : btr ht fl f least best = true := by unfold btr; rw [if_pos (Or.inr h2)]; exact decide_eq_true h
theorem btr_v {ht : Nat → Int32} {fl : Int32} {f : Nat} {least best : Int32} (h : ¬ fl = -1) (h2 : ¬ best = -1) : btr ht fl f least best = (decide (fl < least) || (decide (fl = least) && decide (ht (iz best) < ht f))) := by
  unfold btr
  rw [if_neg]
  rintro (h3 | h3)
  · exact h h3
  · exact h2 h3
theorem bo_s {fv ht : Nat → Int32} {tall : Int32} (n f : Nat) (s : Int32 × Int32) : bo fv ht tall (n + 1) f s = bo fv ht tall n (f + 1) (if ht f < tall then s else if btr ht (fv f) f s.1 s.2 then (fv f, nI f) else s) := rfl
theorem bo_first {fv ht : Nat → Int32} {tall : Int32} : ∀ (n f : Nat) (x y : Int32), (bo fv ht tall n f (x, -1)).2 = (bo fv ht tall n f (y, -1)).2 := by
  intro n
  induction n with
  | zero => intro f x y; rfl
  | succ n ih =>
    intro f x y
    rw [bo_s, bo_s]
    by_cases h1 : ht f < tall
    · rw [if_pos h1, if_pos h1]; exact ih _ _ _
    · rw [if_neg h1, if_neg h1]
      by_cases h2 : fv f = -1
      · rw [btr_m1 h2, btr_m1 h2]; exact ih _ _ _
      · rw [btr_b1 h2 rfl, btr_b1 h2 rfl, if_pos rfl, if_pos rfl]
theorem lt_le' {a b : Int32} : a ≤ b ↔ ¬ b < a := by rw [i_le, i_lt]; omega
set_option maxRecDepth 100000 in
theorem c_bestFount (l : Launch) (Z : Zc) (p q w n : Nat) (tall : Int32) (g : MG) (hL : LnP g p q) (hw : LwP g p q w) (hn : g 31 2 = nI n) (h5 : n ≤ 5) (ot : Nat → Int32) (hot : otI ot) (hoe : ∀ l, l < 10 → g 33 l = ot l) (ht : Nat → Int32) (hht : ∀ i, i < n → g (40 + 10 * i) 1 = ht i) : MR l yX3_bestFount cX3_bestFount 7 (some (.object "PosterTypes$Fount")) (rmz 3 90 0 0) Z [.ref (Z.ad 30), .ref (Z.ad (200 + 10 * (4 * p + q))), .int tall] g (fun r g' => frL g g' p q ∧ r = fR Z.ad (bo (fvL g ot w) ht tall n 0 (-1, -1)).2) := by
  refine ent_q (own := RX3) (lo := [some (.ref (Z.ad 30)), some (.ref (Z.ad (200 + 10 * (4 * p + q)))), some (.int tall), none, none, none, none]) (by decide) rfl (by simp [lg_sl, Value.category]) rfl (fun P hl C ret => ?_)
  have hp6 := hL.lt
  have loop : ∀ (m : Nat) (f : Nat) (s : Int32 × Int32) (g1 : MG) (v : Option Value), n - f < m → f ≤ n → frL g g1 p q → (s.2 = -1 ∨ ∃ b, b < n ∧ s.2 = nI b) → bo (fvL g ot w) ht tall (n - f) f s = bo (fvL g ot w) ht tall n 0 (-1, -1) → V P (rmz 3 90 0 0) Z [some (.ref (Z.ad 30)), some (.ref (Z.ad (200 + 10 * (4 * p + q)))), some (.int tall), some (va_rf (fR Z.ad s.2)), some (.int s.1), some (.int (nI f)), v] 8 [] g1 0 0 := by
    intro m
    induction m with
    | zero => intro f s g1 v hm hf hfr hb he; exact absurd hm (Nat.not_lt_zero _)
    | succ m ih =>
      intro f s g1 v hm hf hfr hb he
      have hL1 := hfr.L hL
      have hn1 : g1 31 2 = nI n := by rw [hfr.1 31 (by omega) (by omega)]; exact hn
      refine v_iload C dX3_bestFount_8 rfl ?_
      refine v_aload_n C dX3_bestFount_10 rfl rfl ?_
      refine v_get C inG3 rfl 0 (by decide) (tg1 66 rfl rfl) rfl cx_T rfl dX3_bestFount_11 ?_
      refine v_callVi (n := 0) (as := []) C (c_lsize _ Z 31 36 g1 cx_L1) (gv (tg1 97 rfl rfl) (tg1 98 rfl rfl) (tg1 99 rfl rfl) (tg1 4 rfl rfl) (tg1 100 rfl rfl)) (by decide +kernel) ⟨Nat.le_of_ble_eq_true rfl, Nat.le_of_ble_eq_true rfl⟩ rfl cx_L1 rfl rfl (Nat.le_of_ble_eq_true rfl) dX3_bestFount_14 ⟨Nat.le_of_ble_eq_true rfl, Nat.le_of_ble_eq_true rfl⟩ (fun r14 g14 hp14 => ?_)
      obtain ⟨rfl, hg14⟩ := hp14
      rw [hg14]
      refine v_topi (y := nI n) hn1 ?_
      refine v_icmp_ge (tgt := 102) C dX3_bestFount_17 (by decide) (fun h17 => ?_) (fun h17 => ?_)
      · have hkn : f = n := Nat.le_antisymm hf ((nI_leI (by omega) (by omega)).mp h17)
        have hse : s = bo (fvL g ot w) ht tall n 0 (-1, -1) := by rw [← he, hkn, Nat.sub_self]; rfl
        obtain hb1 | ⟨b, hbn, hbe⟩ := hb
        · refine v_lo (lo' := [some (.ref (Z.ad 30)), some (.ref (Z.ad (200 + 10 * (4 * p + q)))), some (.int tall), some (.null), some (.int s.1), some (.int (nI f)), v]) (by rw [hb1]; rfl) ?_
          refine v_aload_nN C dX3_bestFount_102 rfl rfl ?_
          exact ret _ _ (none) _ dX3_bestFount_103 ⟨hfr, by rw [← hse, hb1]; rfl⟩
        · refine v_lo (lo' := [some (.ref (Z.ad 30)), some (.ref (Z.ad (200 + 10 * (4 * p + q)))), some (.int tall), some (.ref (Z.ad (40 + 10 * b))), some (.int s.1), some (.int (nI f)), v]) (by rw [hbe, fR_nI (by omega)]; rfl) ?_
          refine v_aload_n C dX3_bestFount_102 rfl rfl ?_
          exact ret _ _ (some (Z.ad (40 + 10 * b))) _ dX3_bestFount_103 ⟨hfr, by rw [← hse, hbe, fR_nI (by omega)]⟩
      · have hkn : f < n := Nat.lt_of_not_le fun z => h17 ((nI_leI (by omega) (by omega)).mpr z)
        have hF1 := FnP.mk hn1 hkn h5
        rw [show n - f = n - (f + 1) + 1 by omega, bo_s] at he
        refine v_aload_n C dX3_bestFount_20 rfl rfl ?_
        refine v_get C inG3 rfl 0 (by decide) (tg1 66 rfl rfl) rfl cx_T rfl dX3_bestFount_21 ?_
        refine v_iload C dX3_bestFount_24 rfl ?_
        refine v_callVq (n := 1) (as := [.int (nI f)]) C (c_lget _ Z 31 36 n f g1 cx_L1 hn1 hkn (by omega) (fun j => Z.ad (40 + 10 * j)) (cxE1 hn1)) (gv (tg1 169 rfl rfl) (tg1 170 rfl rfl) (tg1 171 rfl rfl) (tg1 4 rfl rfl) (tg1 172 rfl rfl)) (by decide +kernel) ⟨Nat.le_of_ble_eq_true rfl, Nat.le_of_ble_eq_true rfl⟩ rfl cx_L1 rfl rfl (Nat.le_of_ble_eq_true rfl) dX3_bestFount_26 ⟨Nat.le_of_ble_eq_true rfl, Nat.le_of_ble_eq_true rfl⟩ (fun r26 g26 hp26 => ?_)
        obtain ⟨rfl, hg26⟩ := hp26
        rw [hg26]
        refine v_st (st' := [.ref (Z.ad (40 + 10 * f))]) rfl ?_
        refine v_cast C rfl (tg1 200 rfl rfl) (cxF hF1) dX3_bestFount_29 ?_
        refine v_astore (lo' := [some (.ref (Z.ad 30)), some (.ref (Z.ad (200 + 10 * (4 * p + q)))), some (.int tall), some (va_rf (fR Z.ad s.2)), some (.int s.1), some (.int (nI f)), some (.ref (Z.ad (40 + 10 * f)))]) C dX3_bestFount_32 (Nat.le_of_ble_eq_true rfl) rfl rfl ?_
        refine v_aload C dX3_bestFount_34 rfl ?_
        refine v_get C inG0 rfl 1 (by decide) (tg5 46 rfl rfl) rfl (cxF hF1) rfl dX3_bestFount_36 ?_
        refine v_topi (y := ht f) (by rw [hfr.1 _ (by omega) (by omega)]; exact hht f hkn) ?_
        refine v_iload_n C dX3_bestFount_39 rfl rfl ?_
        refine v_icmp_lt (tgt := 96) C dX3_bestFount_40 (by decide) (fun h40 => ?_) (fun h40 => ?_)
        · rw [if_pos h40] at he
          refine v_iinc (lo' := [some (.ref (Z.ad 30)), some (.ref (Z.ad (200 + 10 * (4 * p + q)))), some (.int tall), some (va_rf (fR Z.ad s.2)), some (.int s.1), some (.int ((nI f) + 1)), some (.ref (Z.ad (40 + 10 * f)))]) C dX3_bestFount_96 rfl rfl rfl rfl ?_
          refine v_lo (lo' := [some (.ref (Z.ad 30)), some (.ref (Z.ad (200 + 10 * (4 * p + q)))), some (.int tall), some (va_rf (fR Z.ad s.2)), some (.int s.1), some (.int (nI (f + 1))), some (.ref (Z.ad (40 + 10 * f)))]) (by rw [← nI_1 f]) ?_
          refine v_goto (tgt := 8) C dX3_bestFount_99 (by decide) ?_
          exact ih (f + 1) s _ _ (by omega) (by omega) hfr hb he
        · rw [if_neg h40] at he
          refine v_aload_n C dX3_bestFount_43 rfl rfl ?_
          refine v_aload_n C dX3_bestFount_44 rfl rfl ?_
          refine v_aload C dX3_bestFount_45 rfl ?_
          have hoe1 : ∀ l, l < 10 → g1 33 l = ot l := by rw [hfr.1 33 (by omega) (by omega)]; exact hoe
          refine v_callVi (n := 2) (as := [.ref (Z.ad (200 + 10 * (4 * p + q))), .ref (Z.ad (40 + 10 * f))]) C (c_lay _ Z p q f w g1 hL1 hF1 (hw.fr hfr) ot hot hoe1) (gv (tg1 217 rfl rfl) (tg1 219 rfl rfl) (tg0 6 rfl rfl) (tg1 1 rfl rfl) (tg1 220 rfl rfl)) (by decide +kernel) ⟨Nat.le_of_ble_eq_true rfl, Nat.le_of_ble_eq_true rfl⟩ rfl cx_T rfl rfl (Nat.le_of_ble_eq_true rfl) dX3_bestFount_47 ⟨Nat.le_of_ble_eq_true rfl, Nat.le_of_ble_eq_true rfl⟩ (fun r47 g47 hp47 => ?_)
          have hq : layQ (tlR (okL g1 f) ot w (szw w) ts0) r47 g1 g47 p q f := hp47
          have hfr2 := hfr.trans hq.fr
          have hL2 := hfr2.L hL
          have hF2 := hq.fr.F hF1
          have hfv : fvL g ot w f = trv (tlR (okL g1 f) ot w (szw w) ts0) := by rw [okL_fr hfr (by omega)]; rfl
          refine v_if_eq (tgt := 96) C dX3_bestFount_50 (by decide) (fun h50 => ?_) (fun h50 => ?_)
          · rw [btr_m1 (by rw [hfv, hq.no h50]; rfl)] at he
            refine v_iinc (lo' := [some (.ref (Z.ad 30)), some (.ref (Z.ad (200 + 10 * (4 * p + q)))), some (.int tall), some (va_rf (fR Z.ad s.2)), some (.int s.1), some (.int ((nI f) + 1)), some (.ref (Z.ad (40 + 10 * f)))]) C dX3_bestFount_96 rfl rfl rfl rfl ?_
            refine v_lo (lo' := [some (.ref (Z.ad 30)), some (.ref (Z.ad (200 + 10 * (4 * p + q)))), some (.int tall), some (va_rf (fR Z.ad s.2)), some (.int s.1), some (.int (nI (f + 1))), some (.ref (Z.ad (40 + 10 * f)))]) (by rw [← nI_1 f]) ?_
            refine v_goto (tgt := 8) C dX3_bestFount_99 (by decide) ?_
            exact ih (f + 1) s _ _ (by omega) (by omega) hfr2 hb he
          · obtain ⟨t, hts, hlt⟩ := hq.yes h50
            have hft : fvL g ot w f = t.2.1 := by rw [hfv, hts]; rfl
            have hf1 : ¬ fvL g ot w f = -1 := by rw [hft]; exact tl_m1 hot hts
            have hfl : g47 (200 + 10 * (4 * p + q)) 4 = fvL g ot w f := hlt.2.2.1.trans hft.symm
            obtain hb1 | ⟨b, hbn, hbe⟩ := hb
            · refine v_lo (lo' := [some (.ref (Z.ad 30)), some (.ref (Z.ad (200 + 10 * (4 * p + q)))), some (.int tall), some (.null), some (.int s.1), some (.int (nI f)), some (.ref (Z.ad (40 + 10 * f)))]) (by rw [hb1]; rfl) ?_
              rw [btr_b1 hf1 hb1, if_pos rfl] at he
              refine v_aload_nN C dX3_bestFount_53 rfl rfl ?_
              refine v_ifnullN (tgt := 87) C dX3_bestFount_54 (by decide) ?_
              refine v_aload C dX3_bestFount_87 rfl ?_
              refine v_astore_n (lo' := [some (.ref (Z.ad 30)), some (.ref (Z.ad (200 + 10 * (4 * p + q)))), some (.int tall), some (.ref (Z.ad (40 + 10 * f))), some (.int s.1), some (.int (nI f)), some (.ref (Z.ad (40 + 10 * f)))]) C dX3_bestFount_89 rfl (Nat.le_of_ble_eq_true rfl) rfl rfl ?_
              refine v_aload_n C dX3_bestFount_90 rfl rfl ?_
              refine v_get C inG1 rfl 4 (by decide) (tg4 199 rfl rfl) rfl (cxLn hL2) rfl dX3_bestFount_91 ?_
              refine v_topi (y := fvL g ot w f) hfl ?_
              refine v_istore (lo' := [some (.ref (Z.ad 30)), some (.ref (Z.ad (200 + 10 * (4 * p + q)))), some (.int tall), some (.ref (Z.ad (40 + 10 * f))), some (.int (fvL g ot w f)), some (.int (nI f)), some (.ref (Z.ad (40 + 10 * f)))]) C dX3_bestFount_94 (Nat.le_of_ble_eq_true rfl) rfl rfl ?_
              refine v_iinc (lo' := [some (.ref (Z.ad 30)), some (.ref (Z.ad (200 + 10 * (4 * p + q)))), some (.int tall), some (.ref (Z.ad (40 + 10 * f))), some (.int (fvL g ot w f)), some (.int ((nI f) + 1)), some (.ref (Z.ad (40 + 10 * f)))]) C dX3_bestFount_96 rfl rfl rfl rfl ?_
              refine v_lo (lo' := [some (.ref (Z.ad 30)), some (.ref (Z.ad (200 + 10 * (4 * p + q)))), some (.int tall), some (.ref (Z.ad (40 + 10 * f))), some (.int (fvL g ot w f)), some (.int (nI (f + 1))), some (.ref (Z.ad (40 + 10 * f)))]) (by rw [← nI_1 f]) ?_
              refine v_goto (tgt := 8) C dX3_bestFount_99 (by decide) ?_
              refine v_lo (lo' := [some (.ref (Z.ad 30)), some (.ref (Z.ad (200 + 10 * (4 * p + q)))), some (.int tall), some (va_rf (fR Z.ad (nI f))), some (.int (fvL g ot w f)), some (.int (nI (f + 1))), some (.ref (Z.ad (40 + 10 * f)))]) (by rw [fR_nI (by omega)]; rfl) ?_
              exact ih (f + 1) (fvL g ot w f, nI f) _ _ (by omega) (by omega) hfr2 (Or.inr ⟨f, hkn, rfl⟩) he
            · refine v_lo (lo' := [some (.ref (Z.ad 30)), some (.ref (Z.ad (200 + 10 * (4 * p + q)))), some (.int tall), some (.ref (Z.ad (40 + 10 * b))), some (.int s.1), some (.int (nI f)), some (.ref (Z.ad (40 + 10 * f)))]) (by rw [hbe, fR_nI (by omega)]; rfl) ?_
              have hb1 : ¬ s.2 = -1 := by rw [hbe]; exact nI_m1 (by omega)
              rw [btr_v hf1 hb1] at he
              have hFb2 := FnP.mk (g := g47) (i := b) (by rw [hfr2.1 31 (by omega) (by omega)]; exact hn) hbn h5
              refine v_aload_n C dX3_bestFount_53 rfl rfl ?_
              refine v_ifnull C dX3_bestFount_54 ?_
              refine v_aload_n C dX3_bestFount_57 rfl rfl ?_
              refine v_get C inG1 rfl 4 (by decide) (tg4 199 rfl rfl) rfl (cxLn hL2) rfl dX3_bestFount_58 ?_
              refine v_topi (y := fvL g ot w f) hfl ?_
              refine v_iload C dX3_bestFount_61 rfl ?_
              refine v_icmp_lt (tgt := 87) C dX3_bestFount_63 (by decide) (fun h63 => ?_) (fun h63 => ?_)
              · rw [if_pos (by rw [decide_eq_true h63]; rfl)] at he
                refine v_aload C dX3_bestFount_87 rfl ?_
                refine v_astore_n (lo' := [some (.ref (Z.ad 30)), some (.ref (Z.ad (200 + 10 * (4 * p + q)))), some (.int tall), some (.ref (Z.ad (40 + 10 * f))), some (.int s.1), some (.int (nI f)), some (.ref (Z.ad (40 + 10 * f)))]) C dX3_bestFount_89 rfl (Nat.le_of_ble_eq_true rfl) rfl rfl ?_
                refine v_aload_n C dX3_bestFount_90 rfl rfl ?_
                refine v_get C inG1 rfl 4 (by decide) (tg4 199 rfl rfl) rfl (cxLn hL2) rfl dX3_bestFount_91 ?_
                refine v_topi (y := fvL g ot w f) hfl ?_
                refine v_istore (lo' := [some (.ref (Z.ad 30)), some (.ref (Z.ad (200 + 10 * (4 * p + q)))), some (.int tall), some (.ref (Z.ad (40 + 10 * f))), some (.int (fvL g ot w f)), some (.int (nI f)), some (.ref (Z.ad (40 + 10 * f)))]) C dX3_bestFount_94 (Nat.le_of_ble_eq_true rfl) rfl rfl ?_
                refine v_iinc (lo' := [some (.ref (Z.ad 30)), some (.ref (Z.ad (200 + 10 * (4 * p + q)))), some (.int tall), some (.ref (Z.ad (40 + 10 * f))), some (.int (fvL g ot w f)), some (.int ((nI f) + 1)), some (.ref (Z.ad (40 + 10 * f)))]) C dX3_bestFount_96 rfl rfl rfl rfl ?_
                refine v_lo (lo' := [some (.ref (Z.ad 30)), some (.ref (Z.ad (200 + 10 * (4 * p + q)))), some (.int tall), some (.ref (Z.ad (40 + 10 * f))), some (.int (fvL g ot w f)), some (.int (nI (f + 1))), some (.ref (Z.ad (40 + 10 * f)))]) (by rw [← nI_1 f]) ?_
                refine v_goto (tgt := 8) C dX3_bestFount_99 (by decide) ?_
                refine v_lo (lo' := [some (.ref (Z.ad 30)), some (.ref (Z.ad (200 + 10 * (4 * p + q)))), some (.int tall), some (va_rf (fR Z.ad (nI f))), some (.int (fvL g ot w f)), some (.int (nI (f + 1))), some (.ref (Z.ad (40 + 10 * f)))]) (by rw [fR_nI (by omega)]; rfl) ?_
                exact ih (f + 1) (fvL g ot w f, nI f) _ _ (by omega) (by omega) hfr2 (Or.inr ⟨f, hkn, rfl⟩) he
              · refine v_aload_n C dX3_bestFount_66 rfl rfl ?_
                refine v_get C inG1 rfl 4 (by decide) (tg4 199 rfl rfl) rfl (cxLn hL2) rfl dX3_bestFount_67 ?_
                refine v_topi (y := fvL g ot w f) hfl ?_
                refine v_iload C dX3_bestFount_70 rfl ?_
                refine v_icmp_ne (tgt := 96) C dX3_bestFount_72 (by decide) (fun h72 => ?_) (fun h72 => ?_)
                · rw [if_neg (by simp [h63, h72])] at he
                  refine v_iinc (lo' := [some (.ref (Z.ad 30)), some (.ref (Z.ad (200 + 10 * (4 * p + q)))), some (.int tall), some (.ref (Z.ad (40 + 10 * b))), some (.int s.1), some (.int ((nI f) + 1)), some (.ref (Z.ad (40 + 10 * f)))]) C dX3_bestFount_96 rfl rfl rfl rfl ?_
                  refine v_lo (lo' := [some (.ref (Z.ad 30)), some (.ref (Z.ad (200 + 10 * (4 * p + q)))), some (.int tall), some (.ref (Z.ad (40 + 10 * b))), some (.int s.1), some (.int (nI (f + 1))), some (.ref (Z.ad (40 + 10 * f)))]) (by rw [← nI_1 f]) ?_
                  refine v_goto (tgt := 8) C dX3_bestFount_99 (by decide) ?_
                  refine v_lo (lo' := [some (.ref (Z.ad 30)), some (.ref (Z.ad (200 + 10 * (4 * p + q)))), some (.int tall), some (va_rf (fR Z.ad s.2)), some (.int s.1), some (.int (nI (f + 1))), some (.ref (Z.ad (40 + 10 * f)))]) (by rw [hbe, fR_nI (by omega)]; rfl) ?_
                  exact ih (f + 1) s _ _ (by omega) (by omega) hfr2 (Or.inr ⟨b, hbn, hbe⟩) he
                · refine v_aload C dX3_bestFount_75 rfl ?_
                  refine v_get C inG0 rfl 1 (by decide) (tg5 46 rfl rfl) rfl (cxF hF2) rfl dX3_bestFount_77 ?_
                  refine v_topi (y := ht f) (by rw [hfr2.1 _ (by omega) (by omega)]; exact hht f hkn) ?_
                  refine v_aload_n C dX3_bestFount_80 rfl rfl ?_
                  refine v_get C inG0 rfl 1 (by decide) (tg5 46 rfl rfl) rfl (cxF hFb2) rfl dX3_bestFount_81 ?_
                  refine v_topi (y := ht b) (by rw [hfr2.1 _ (by omega) (by omega)]; exact hht b hbn) ?_
                  refine v_icmp_le (tgt := 96) C dX3_bestFount_84 (by decide) (fun h84 => ?_) (fun h84 => ?_)
                  · rw [if_neg (by rw [hbe, iz_nI (by omega)]; simp [h63, lt_le'.mp h84])] at he
                    refine v_iinc (lo' := [some (.ref (Z.ad 30)), some (.ref (Z.ad (200 + 10 * (4 * p + q)))), some (.int tall), some (.ref (Z.ad (40 + 10 * b))), some (.int s.1), some (.int ((nI f) + 1)), some (.ref (Z.ad (40 + 10 * f)))]) C dX3_bestFount_96 rfl rfl rfl rfl ?_
                    refine v_lo (lo' := [some (.ref (Z.ad 30)), some (.ref (Z.ad (200 + 10 * (4 * p + q)))), some (.int tall), some (.ref (Z.ad (40 + 10 * b))), some (.int s.1), some (.int (nI (f + 1))), some (.ref (Z.ad (40 + 10 * f)))]) (by rw [← nI_1 f]) ?_
                    refine v_goto (tgt := 8) C dX3_bestFount_99 (by decide) ?_
                    refine v_lo (lo' := [some (.ref (Z.ad 30)), some (.ref (Z.ad (200 + 10 * (4 * p + q)))), some (.int tall), some (va_rf (fR Z.ad s.2)), some (.int s.1), some (.int (nI (f + 1))), some (.ref (Z.ad (40 + 10 * f)))]) (by rw [hbe, fR_nI (by omega)]; rfl) ?_
                    exact ih (f + 1) s _ _ (by omega) (by omega) hfr2 (Or.inr ⟨b, hbn, hbe⟩) he
                  · rw [if_pos (by rw [hbe, iz_nI (by omega)]; simp [h72, lt_le.mp h84])] at he
                    refine v_aload C dX3_bestFount_87 rfl ?_
                    refine v_astore_n (lo' := [some (.ref (Z.ad 30)), some (.ref (Z.ad (200 + 10 * (4 * p + q)))), some (.int tall), some (.ref (Z.ad (40 + 10 * f))), some (.int s.1), some (.int (nI f)), some (.ref (Z.ad (40 + 10 * f)))]) C dX3_bestFount_89 rfl (Nat.le_of_ble_eq_true rfl) rfl rfl ?_
                    refine v_aload_n C dX3_bestFount_90 rfl rfl ?_
                    refine v_get C inG1 rfl 4 (by decide) (tg4 199 rfl rfl) rfl (cxLn hL2) rfl dX3_bestFount_91 ?_
                    refine v_topi (y := fvL g ot w f) hfl ?_
                    refine v_istore (lo' := [some (.ref (Z.ad 30)), some (.ref (Z.ad (200 + 10 * (4 * p + q)))), some (.int tall), some (.ref (Z.ad (40 + 10 * f))), some (.int (fvL g ot w f)), some (.int (nI f)), some (.ref (Z.ad (40 + 10 * f)))]) C dX3_bestFount_94 (Nat.le_of_ble_eq_true rfl) rfl rfl ?_
                    refine v_iinc (lo' := [some (.ref (Z.ad 30)), some (.ref (Z.ad (200 + 10 * (4 * p + q)))), some (.int tall), some (.ref (Z.ad (40 + 10 * f))), some (.int (fvL g ot w f)), some (.int ((nI f) + 1)), some (.ref (Z.ad (40 + 10 * f)))]) C dX3_bestFount_96 rfl rfl rfl rfl ?_
                    refine v_lo (lo' := [some (.ref (Z.ad 30)), some (.ref (Z.ad (200 + 10 * (4 * p + q)))), some (.int tall), some (.ref (Z.ad (40 + 10 * f))), some (.int (fvL g ot w f)), some (.int (nI (f + 1))), some (.ref (Z.ad (40 + 10 * f)))]) (by rw [← nI_1 f]) ?_
                    refine v_goto (tgt := 8) C dX3_bestFount_99 (by decide) ?_
                    refine v_lo (lo' := [some (.ref (Z.ad 30)), some (.ref (Z.ad (200 + 10 * (4 * p + q)))), some (.int tall), some (va_rf (fR Z.ad (nI f))), some (.int (fvL g ot w f)), some (.int (nI (f + 1))), some (.ref (Z.ad (40 + 10 * f)))]) (by rw [fR_nI (by omega)]; rfl) ?_
                    exact ih (f + 1) (fvL g ot w f, nI f) _ _ (by omega) (by omega) hfr2 (Or.inr ⟨f, hkn, rfl⟩) he
  refine v_null C dX3_bestFount_0 ?_
  refine v_astore_nN (lo' := [some (.ref (Z.ad 30)), some (.ref (Z.ad (200 + 10 * (4 * p + q)))), some (.int tall), some (.null), none, none, none]) C dX3_bestFount_1 rfl (Nat.le_of_ble_eq_true rfl) rfl rfl ?_
  refine v_iconst (v := (-1)) C dX3_bestFount_2 (by decide) ?_
  refine v_istore (lo' := [some (.ref (Z.ad 30)), some (.ref (Z.ad (200 + 10 * (4 * p + q)))), some (.int tall), some (.null), some (.int (-1)), none, none]) C dX3_bestFount_3 (Nat.le_of_ble_eq_true rfl) rfl rfl ?_
  refine v_iconst (v := 0) C dX3_bestFount_5 (by decide) ?_
  refine v_topi (y := nI 0) rfl ?_
  refine v_istore (lo' := [some (.ref (Z.ad 30)), some (.ref (Z.ad (200 + 10 * (4 * p + q)))), some (.int tall), some (.null), some (.int (-1)), some (.int (nI 0)), none]) C dX3_bestFount_6 (Nat.le_of_ble_eq_true rfl) rfl rfl ?_
  refine v_lo (lo' := [some (.ref (Z.ad 30)), some (.ref (Z.ad (200 + 10 * (4 * p + q)))), some (.int tall), some (va_rf (fR Z.ad (-1))), some (.int (-1)), some (.int (nI 0)), none]) rfl ?_
  exact loop (n + 1) 0 (-1, -1) g _ (by omega) (by omega) frL.rf (Or.inl rfl) rfl
