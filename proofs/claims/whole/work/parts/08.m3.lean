/-! THE REFERENCE: the best fount of a line, and a poster that is tried -/
def btr (ht : Nat → Int32) (fl : Int32) (f : Nat) (least best : Int32) : Bool := if fl = -1 ∨ best = -1 then decide (¬ fl = -1) else decide (fl < least) || (decide (fl = least) && decide (ht (iz best) < ht f))
def trv (o : Option TS) : Int32 := match o with
  | none => -1
  | some s => s.2.1
theorem tlQ_trv {o : Option TS} {r : Int32} {g' : MG} (h : tlQ o r g') : r = trv o := by
  cases o with
  | none => exact h
  | some s => exact h.1
/-- the best fount, from f on, n more of them: (least flaws, best) -/
def bo (fv ht : Nat → Int32) (tall : Int32) : Nat → Nat → Int32 × Int32 → Int32 × Int32
  | 0, _, s => s
  | n + 1, f, s => bo fv ht tall n (f + 1) (if ht f < tall then s else if btr ht (fv f) f s.1 s.2 then (fv f, nI f) else s)
def fvM (g : MG) (w f : Nat) : Int32 := trv (tlR (okM g f) (g 9) w (szw w) ts0)
theorem frT.trans {a b c : MG} (h1 : frT a b) (h2 : frT b c) : frT a c := ⟨fun q x y => (h2.1 q x y).trans (h1.1 q x y), fun j x => (h2.2 j x).trans (h1.2 j x)⟩
theorem fvM_fr {g g' : MG} (h : frT g g') (w f : Nat) : fvM g' w f = fvM g w f := by
  unfold fvM
  rw [h.1 9 (by decide) (by decide), show okM g' f = okM g f from funext fun k => funext fun x => okM_fr h f k x]
set_option maxRecDepth 100000 in
theorem c_isBetter (l : Launch) (Z : Zc) (fl least best : Int32) (f : Nat) (g : MG) (hf : f < 5) (hb : best = -1 ∨ ∃ b, b < 5 ∧ best = nI b) : MI l yX4_isBetter cX4_isBetter 5 (some .boolean) (rmz 0 0 0 0) Z [.ref (Z.ad 0), .int fl, .int (nI f), .int least, .int best] g (fun r g' => r = bI (btr (g 5) fl f least best) ∧ g' = g) := by
  refine ent_z (own := RX4) (lo := [some (.ref (Z.ad 0)), some (.int fl), some (.int (nI f)), some (.int least), some (.int best)]) (by decide) rfl (by simp [lg_sl, Value.category]) rfl (fun P hl C ret => ?_)
  refine v_iload_n C dX4_isBetter_0 rfl rfl ?_
  refine v_iconst (v := (-1)) C dX4_isBetter_1 (by decide) ?_
  refine v_icmp_eq (tgt := 11) C dX4_isBetter_2 (by decide) (fun h2 => ?_) (fun h2 => ?_)
  · refine v_iload_n C dX4_isBetter_11 rfl rfl ?_
    refine v_iconst (v := (-1)) C dX4_isBetter_12 (by decide) ?_
    refine v_icmp_eq (tgt := 20) C dX4_isBetter_13 (by decide) (fun h13 => ?_) (fun h13 => ?_)
    · refine v_iconst (v := 0) C dX4_isBetter_20 (by decide) ?_
      exact ret _ _ _ _ dX4_isBetter_21 (by decide) ⟨bI_f (by simp [btr, h2, h13]), rfl⟩
    · refine v_iconst (v := 1) C dX4_isBetter_16 (by decide) ?_
      refine v_goto (tgt := 21) C dX4_isBetter_17 (by decide) ?_
      exact ret _ _ _ _ dX4_isBetter_21 (by decide) ⟨bI_t (absurd h2 h13), rfl⟩
  · refine v_iload C dX4_isBetter_5 rfl ?_
    refine v_iconst (v := (-1)) C dX4_isBetter_7 (by decide) ?_
    refine v_icmp_ne (tgt := 22) C dX4_isBetter_8 (by decide) (fun h8 => ?_) (fun h8 => ?_)
    · obtain ⟨b, hb5, hbe⟩ := hb.resolve_left h8
      subst hbe
      refine v_iload_n C dX4_isBetter_22 rfl rfl ?_
      refine v_iload_n C dX4_isBetter_23 rfl rfl ?_
      refine v_icmp_lt (tgt := 48) C dX4_isBetter_24 (by decide) (fun h24 => ?_) (fun h24 => ?_)
      · refine v_iconst (v := 1) C dX4_isBetter_48 (by decide) ?_
        refine v_goto (tgt := 53) C dX4_isBetter_49 (by decide) ?_
        exact ret _ _ _ _ dX4_isBetter_53 (by decide) ⟨bI_t (by simp [btr, h2, h8, h24]), rfl⟩
      · refine v_iload_n C dX4_isBetter_27 rfl rfl ?_
        refine v_iload_n C dX4_isBetter_28 rfl rfl ?_
        refine v_icmp_ne (tgt := 52) C dX4_isBetter_29 (by decide) (fun h29 => ?_) (fun h29 => ?_)
        · refine v_iconst (v := 0) C dX4_isBetter_52 (by decide) ?_
          exact ret _ _ _ _ dX4_isBetter_53 (by decide) ⟨bI_f (by simp [btr, h2, h8, h24, h29]), rfl⟩
        · refine v_aload_n C dX4_isBetter_32 rfl rfl ?_
          refine v_get C inG4 rfl 5 (by decide) (tg3 200 rfl rfl) rfl cx_M rfl dX4_isBetter_33 ?_
          refine v_iload_n C dX4_isBetter_36 rfl rfl ?_
          refine v_ialdN (a := f) C cxA5 ⟨hf, by decide⟩ dX4_isBetter_37 ?_
          refine v_aload_n C dX4_isBetter_38 rfl rfl ?_
          refine v_get C inG4 rfl 5 (by decide) (tg3 200 rfl rfl) rfl cx_M rfl dX4_isBetter_39 ?_
          refine v_iload C dX4_isBetter_42 rfl ?_
          refine v_ialdN (a := b) C cxA5 ⟨hb5, by decide⟩ dX4_isBetter_44 ?_
          refine v_icmp_le (tgt := 52) C dX4_isBetter_45 (by decide) (fun h45 => ?_) (fun h45 => ?_)
          · refine v_iconst (v := 0) C dX4_isBetter_52 (by decide) ?_
            exact ret _ _ _ _ dX4_isBetter_53 (by decide) ⟨bI_f (by subst h29; simp [btr, h2, h8, h24, h45, iz_nI (show b < 2 ^ 31 by omega)]), rfl⟩
          · refine v_iconst (v := 1) C dX4_isBetter_48 (by decide) ?_
            refine v_goto (tgt := 53) C dX4_isBetter_49 (by decide) ?_
            exact ret _ _ _ _ dX4_isBetter_53 (by decide) ⟨bI_t (by subst h29; simp [btr, h2, h8, h24, Int32.not_le.mp h45, iz_nI (show b < 2 ^ 31 by omega)]), rfl⟩
    · refine v_iload_n C dX4_isBetter_11 rfl rfl ?_
      refine v_iconst (v := (-1)) C dX4_isBetter_12 (by decide) ?_
      refine v_icmp_eq (tgt := 20) C dX4_isBetter_13 (by decide) (fun h13 => ?_) (fun h13 => ?_)
      · refine v_iconst (v := 0) C dX4_isBetter_20 (by decide) ?_
        exact ret _ _ _ _ dX4_isBetter_21 (by decide) ⟨bI_f (by simp [btr, h2, h8, h13]), rfl⟩
      · refine v_iconst (v := 1) C dX4_isBetter_16 (by decide) ?_
        refine v_goto (tgt := 21) C dX4_isBetter_17 (by decide) ?_
        exact ret _ _ _ _ dX4_isBetter_21 (by decide) ⟨bI_t (by simp [btr, h2, h8, h13]), rfl⟩
set_option maxRecDepth 100000 in
theorem c_bestOf (l : Launch) (Z : Zc) (p w nf : Nat) (g : MG) (hp : p < 6) (hw : w < 2 ^ 31) (hot : otI (g 9)) (hnf : g 0 1 = nI nf) (h5 : nf ≤ 5) : MI l yX4_bestOf cX4_bestOf 7 (some .int) (rmz 2 48 0 0) Z [.ref (Z.ad 0), .int (nI p), .int (nI w)] g (fun r g' => frT g g' ∧ r = (bo (fvM g w) (g 5) (g 13 p) nf 0 (0, -1)).2 ∧ (r = -1 ∨ ∃ b, b < nf ∧ r = nI b)) := by
  refine ent_i (own := RX4) (lo := [some (.ref (Z.ad 0)), some (.int (nI p)), some (.int (nI w)), none, none, none, none]) (by decide) rfl (by simp [lg_sl, Value.category]) rfl (fun P hl C ret => ?_)
  have loop : ∀ (n : Nat) (f : Nat) (s : Int32 × Int32) (g1 : MG) (v : Option Value), nf - f < n → f ≤ nf → frT g g1 → (s.2 = -1 ∨ ∃ b, b < nf ∧ s.2 = nI b) → bo (fvM g w) (g 5) (g 13 p) (nf - f) f s = (bo (fvM g w) (g 5) (g 13 p) nf 0 (0, -1)) → V P (rmz 2 48 0 0) Z [some (.ref (Z.ad 0)), some (.int (nI p)), some (.int (nI w)), some (.int s.2), some (.int s.1), some (.int (nI f)), v] 8 [] g1 0 0 := by
    intro n
    induction n with
    | zero => intro f s g1 v hn hf hfr hb he; exact absurd hn (Nat.not_lt_zero _)
    | succ n ih =>
      intro f s g1 v hn hf hfr hb he
      refine v_iload C dX4_bestOf_8 rfl ?_
      refine v_aload_n C dX4_bestOf_10 rfl rfl ?_
      have e01 : g1 0 1 = nI nf := (hfr.2 1 (by decide)).trans hnf
      refine v_get C inG4 rfl 1 (by decide) (tg3 196 rfl rfl) rfl cx_M rfl dX4_bestOf_11 ?_
      refine v_topi (y := nI nf) e01 ?_
      refine v_icmp_ge (tgt := 75) C dX4_bestOf_14 (by decide) (fun h14 => ?_) (fun h14 => ?_)
      · have hfn : f = nf := Nat.le_antisymm hf ((nI_leI (by omega) (by omega)).mp h14)
        refine v_iload_n C dX4_bestOf_75 rfl rfl ?_
        exact ret _ _ _ _ dX4_bestOf_76 ⟨hfr, by rw [← he, hfn, Nat.sub_self]; rfl, hb⟩
      · have hfn : f < nf := Nat.lt_of_not_le fun q => h14 ((nI_leI (by omega) (by omega)).mpr q)
        have hst : bo (fvM g w) (g 5) (g 13 p) (nf - (f + 1)) (f + 1) (if g 5 f < g 13 p then s else if btr (g 5) (fvM g w f) f s.1 s.2 then (fvM g w f, nI f) else s) = (bo (fvM g w) (g 5) (g 13 p) nf 0 (0, -1)) := by rw [← he, show nf - f = nf - (f + 1) + 1 by omega]; rfl
        refine v_aload_n C dX4_bestOf_17 rfl rfl ?_
        refine v_get C inG4 rfl 5 (by decide) (tg3 200 rfl rfl) rfl cx_M rfl dX4_bestOf_18 ?_
        refine v_iload C dX4_bestOf_21 rfl ?_
        refine v_ialdN (a := f) C cxA5 ⟨by omega, by decide⟩ dX4_bestOf_23 ?_
        refine v_aload_n C dX4_bestOf_24 rfl rfl ?_
        refine v_get C inG4 rfl 13 (by decide) (tg3 208 rfl rfl) rfl cx_M rfl dX4_bestOf_25 ?_
        refine v_iload_n C dX4_bestOf_28 rfl rfl ?_
        refine v_ialdN (a := p) C cxA13 ⟨hp, by decide⟩ dX4_bestOf_29 ?_
        rw [hfr.1 5 (by decide) (by decide), hfr.1 13 (by decide) (by decide)]
        refine v_icmp_ge (tgt := 36) C dX4_bestOf_30 (by decide) (fun h30 => ?_) (fun h30 => ?_)
        · refine v_aload_n C dX4_bestOf_36 rfl rfl ?_
          refine v_iload C dX4_bestOf_37 rfl ?_
          refine v_iload_n C dX4_bestOf_39 rfl rfl ?_
          refine v_callVi (n := 2) (as := [.int (nI f), .int (nI w)]) C (c_tryLine _ Z f w g1 (by omega) hw (by rw [hfr.1 9 (by decide) (by decide)]; exact hot)) (gv (tg4 104 rfl rfl) (tg4 106 rfl rfl) (tg0 25 rfl rfl) (tg1 6 rfl rfl) (tg4 107 rfl rfl)) (by decide +kernel) ⟨Nat.le_of_ble_eq_true rfl, Nat.le_of_ble_eq_true rfl⟩ rfl cx_M rfl rfl (Nat.le_of_ble_eq_true rfl) dX4_bestOf_40 ⟨Nat.le_of_ble_eq_true rfl, Nat.le_of_ble_eq_true rfl⟩ (fun r40 g40 hp40 => ?_)
          obtain ⟨hfr2, hq⟩ := hp40
          have hfr3 := hfr.trans hfr2
          have hv : r40 = fvM g w f := (tlQ_trv hq).trans (fvM_fr hfr w f)
          subst hv
          refine v_topi (y := fvM g w f) rfl ?_
          refine v_istore (lo' := [some (.ref (Z.ad 0)), some (.int (nI p)), some (.int (nI w)), some (.int s.2), some (.int s.1), some (.int (nI f)), some (.int (fvM g w f))]) C dX4_bestOf_43 (Nat.le_of_ble_eq_true rfl) rfl rfl ?_
          refine v_aload_n C dX4_bestOf_45 rfl rfl ?_
          refine v_iload C dX4_bestOf_46 rfl ?_
          refine v_iload C dX4_bestOf_48 rfl ?_
          refine v_iload C dX4_bestOf_50 rfl ?_
          refine v_iload_n C dX4_bestOf_52 rfl rfl ?_
          refine v_callVi (n := 4) (as := [.int (fvM g w f), .int (nI f), .int s.1, .int s.2]) C (c_isBetter _ Z (fvM g w f) s.1 s.2 f g40 (by omega) (hb.elim Or.inl fun ⟨b, h1, h2⟩ => Or.inr ⟨b, by omega, h2⟩)) (gv (tg4 118 rfl rfl) (tg4 120 rfl rfl) (tg0 27 rfl rfl) (tg1 6 rfl rfl) (tg4 121 rfl rfl)) (by decide +kernel) ⟨Nat.le_of_ble_eq_true rfl, Nat.le_of_ble_eq_true rfl⟩ rfl cx_M rfl rfl (Nat.le_of_ble_eq_true rfl) dX4_bestOf_53 ⟨Nat.le_of_ble_eq_true rfl, Nat.le_of_ble_eq_true rfl⟩ (fun r53 g53 hp53 => ?_)
          obtain ⟨rfl, hg53⟩ := hp53
          rw [hg53]
          refine v_topi (y := bI (btr (g 5) (fvM g w f) f s.1 s.2)) (by rw [hfr3.1 5 (by decide) (by decide)]) ?_
          refine v_if_ne (tgt := 62) C dX4_bestOf_56 (by decide) (fun h56 => ?_) (fun h56 => ?_)
          · refine v_iload C dX4_bestOf_62 rfl ?_
            refine v_istore_n (lo' := [some (.ref (Z.ad 0)), some (.int (nI p)), some (.int (nI w)), some (.int (nI f)), some (.int s.1), some (.int (nI f)), some (.int (fvM g w f))]) C dX4_bestOf_64 rfl (Nat.le_of_ble_eq_true rfl) rfl rfl ?_
            refine v_iload C dX4_bestOf_65 rfl ?_
            refine v_istore (lo' := [some (.ref (Z.ad 0)), some (.int (nI p)), some (.int (nI w)), some (.int (nI f)), some (.int (fvM g w f)), some (.int (nI f)), some (.int (fvM g w f))]) C dX4_bestOf_67 (Nat.le_of_ble_eq_true rfl) rfl rfl ?_
            refine v_iinc (lo' := [some (.ref (Z.ad 0)), some (.int (nI p)), some (.int (nI w)), some (.int (nI f)), some (.int (fvM g w f)), some (.int ((nI f) + 1)), some (.int (fvM g w f))]) C dX4_bestOf_69 rfl rfl rfl rfl ?_
            refine v_lo (lo' := [some (.ref (Z.ad 0)), some (.int (nI p)), some (.int (nI w)), some (.int (nI f)), some (.int (fvM g w f)), some (.int (nI (f + 1))), some (.int (fvM g w f))]) (by rw [← nI_1 f]) ?_
            refine v_goto (tgt := 8) C dX4_bestOf_72 (by decide) ?_
            rw [if_neg (Int32.not_lt.mpr h30), if_pos (bI_1.mp h56)] at hst
            exact ih (f + 1) (fvM g w f, nI f) g40 _ (by omega) (by omega) hfr3 (Or.inr ⟨f, hfn, rfl⟩) hst
          · refine v_goto (tgt := 69) C dX4_bestOf_59 (by decide) ?_
            refine v_iinc (lo' := [some (.ref (Z.ad 0)), some (.int (nI p)), some (.int (nI w)), some (.int s.2), some (.int s.1), some (.int ((nI f) + 1)), some (.int (fvM g w f))]) C dX4_bestOf_69 rfl rfl rfl rfl ?_
            refine v_lo (lo' := [some (.ref (Z.ad 0)), some (.int (nI p)), some (.int (nI w)), some (.int s.2), some (.int s.1), some (.int (nI (f + 1))), some (.int (fvM g w f))]) (by rw [← nI_1 f]) ?_
            refine v_goto (tgt := 8) C dX4_bestOf_72 (by decide) ?_
            rw [if_neg (Int32.not_lt.mpr h30), if_neg (by rw [bI_0.mp h56]; exact Bool.false_ne_true)] at hst
            exact ih (f + 1) s g40 _ (by omega) (by omega) hfr3 hb hst
        · refine v_goto (tgt := 69) C dX4_bestOf_33 (by decide) ?_
          refine v_iinc (lo' := [some (.ref (Z.ad 0)), some (.int (nI p)), some (.int (nI w)), some (.int s.2), some (.int s.1), some (.int ((nI f) + 1)), v]) C dX4_bestOf_69 rfl rfl rfl rfl ?_
          refine v_lo (lo' := [some (.ref (Z.ad 0)), some (.int (nI p)), some (.int (nI w)), some (.int s.2), some (.int s.1), some (.int (nI (f + 1))), v]) (by rw [← nI_1 f]) ?_
          refine v_goto (tgt := 8) C dX4_bestOf_72 (by decide) ?_
          rw [if_pos (Int32.not_le.mp h30)] at hst
          exact ih (f + 1) s g1 v (by omega) (by omega) hfr hb hst
  refine v_iconst (v := (-1)) C dX4_bestOf_0 (by decide) ?_
  refine v_istore_n (lo' := [some (.ref (Z.ad 0)), some (.int (nI p)), some (.int (nI w)), some (.int (-1)), none, none, none]) C dX4_bestOf_1 rfl (Nat.le_of_ble_eq_true rfl) rfl rfl ?_
  refine v_iconst (v := 0) C dX4_bestOf_2 (by decide) ?_
  refine v_istore (lo' := [some (.ref (Z.ad 0)), some (.int (nI p)), some (.int (nI w)), some (.int (-1)), some (.int 0), none, none]) C dX4_bestOf_3 (Nat.le_of_ble_eq_true rfl) rfl rfl ?_
  refine v_iconst (v := 0) C dX4_bestOf_5 (by decide) ?_
  refine v_topi (y := nI 0) rfl ?_
  refine v_istore (lo' := [some (.ref (Z.ad 0)), some (.int (nI p)), some (.int (nI w)), some (.int (-1)), some (.int 0), some (.int (nI 0)), none]) C dX4_bestOf_6 (Nat.le_of_ble_eq_true rfl) rfl rfl ?_
  exact loop (nf + 1) 0 (0, -1) g none (by omega) (Nat.zero_le _) frT.rf (Or.inl rfl) rfl
