/-! THE REFERENCE: letters, and a line that is tried of a fount -/
set_option maxRecDepth 100000 in
theorem c_letterAt (l : Launch) (Z : Zc) (w b : Nat) (g : MG) (hw : w < 2 ^ 31) (hb : b < 2 ^ 31) : MI l yX4_letterAt cX4_letterAt 4 (some .int) (rmz 0 0 0 0) Z [.int (nI w), .int (nI b)] g (fun r g' => r = nI (w / 10 ^ b % 10) ∧ g' = g) := by
  refine ent_i (own := RX4) (lo := [some (.int (nI w)), some (.int (nI b)), none, none]) (by decide) rfl (by simp [lg_sl, Value.category]) rfl (fun P hl C ret => ?_)
  have loop : ∀ (n : Nat) (k : Nat), k ≤ b → b - k < n → V P (rmz 0 0 0 0) Z [some (.int (nI w)), some (.int (nI b)), some (.int (nI (w / 10 ^ k))), some (.int (nI k))] 4 [] g 0 0 := by
    intro n
    induction n with
    | zero => intro k hk hn; exact absurd hn (Nat.not_lt_zero _)
    | succ n ih =>
      intro k hk hn
      refine v_iload_n C dX4_letterAt_4 rfl rfl ?_
      refine v_iload_n C dX4_letterAt_5 rfl rfl ?_
      refine v_icmp_ge (tgt := 20) C dX4_letterAt_6 (by decide) (fun h6 => ?_) (fun h6 => ?_)
      · have hkb : k = b := Nat.le_antisymm hk ((nI_leI hb (by omega)).mp h6)
        refine v_iload_n C dX4_letterAt_20 rfl rfl ?_
        refine v_bipush (v := 10) C dX4_letterAt_21 (by decide) ?_
        refine v_irem C dX4_letterAt_23 (by decide) ?_
        refine v_topi (y := nI (w / 10 ^ b % 10)) (by rw [nI_mod10 (Nat.lt_of_le_of_lt (Nat.div_le_self _ _) hw), hkb]) ?_
        exact ret _ _ _ _ dX4_letterAt_24 ⟨rfl, rfl⟩
      · have hkb : ¬ b ≤ k := fun q => h6 ((nI_leI hb (by omega)).mpr q)
        refine v_iload_n C dX4_letterAt_9 rfl rfl ?_
        refine v_bipush (v := 10) C dX4_letterAt_10 (by decide) ?_
        refine v_idiv C dX4_letterAt_12 (by decide) ?_
        refine v_topi (y := nI (w / 10 ^ (k + 1))) (by rw [show (10 : Int32) = nI 10 from rfl, nI_div (Nat.lt_of_le_of_lt (Nat.div_le_self _ _) hw) (by decide), Nat.pow_succ, Nat.div_div_eq_div_mul]) ?_
        refine v_istore_n (lo' := [some (.int (nI w)), some (.int (nI b)), some (.int (nI (w / 10 ^ (k + 1)))), some (.int (nI k))]) C dX4_letterAt_13 rfl (Nat.le_of_ble_eq_true rfl) rfl rfl ?_
        refine v_iinc (lo' := [some (.int (nI w)), some (.int (nI b)), some (.int (nI (w / 10 ^ (k + 1)))), some (.int ((nI k) + 1))]) C dX4_letterAt_14 rfl rfl rfl rfl ?_
        refine v_lo (lo' := [some (.int (nI w)), some (.int (nI b)), some (.int (nI (w / 10 ^ (k + 1)))), some (.int (nI (k + 1)))]) (by rw [← nI_1 k]) ?_
        refine v_goto (tgt := 4) C dX4_letterAt_17 (by decide) ?_
        exact ih (k + 1) (by omega) (by omega)
  refine v_iload_n C dX4_letterAt_0 rfl rfl ?_
  refine v_topi (y := nI (w / 10 ^ 0)) (by rw [Nat.pow_zero, Nat.div_one]) ?_
  refine v_istore_n (lo' := [some (.int (nI w)), some (.int (nI b)), some (.int (nI (w / 10 ^ 0))), none]) C dX4_letterAt_1 rfl (Nat.le_of_ble_eq_true rfl) rfl rfl ?_
  refine v_iconst (v := 0) C dX4_letterAt_2 (by decide) ?_
  refine v_topi (y := nI 0) rfl ?_
  refine v_istore_n (lo' := [some (.int (nI w)), some (.int (nI b)), some (.int (nI (w / 10 ^ 0))), some (.int (nI 0))]) C dX4_letterAt_3 rfl (Nat.le_of_ble_eq_true rfl) rfl rfl ?_
  exact loop (b + 1) 0 (Nat.zero_le _) (by omega)
abbrev TS : Type := (Nat → Int32) × Int32 × Int32
/-- one letter more: the blocks taken, the flaws, the word so far -/
def tl1 (ok : Nat → Int32 → Bool) (ot : Nat → Int32) (s : TS) (d : Nat) : Option TS :=
  if ok d (s.1 d) then some (upd s.1 d (s.1 d + 1), s.2.1, 10 * s.2.2 + nI d)
  else if ot d = -1 then none
  else if ok (iz (ot d)) (s.1 (iz (ot d))) then some (upd s.1 (iz (ot d)) (s.1 (iz (ot d)) + 1), s.2.1 + 1, 10 * s.2.2 + ot d) else none
def tlR (ok : Nat → Int32 → Bool) (ot : Nat → Int32) (w : Nat) : Nat → TS → Option TS
  | 0, s => some s
  | m + 1, s => (tl1 ok ot s (w / 10 ^ m % 10)).bind (tlR ok ot w m)
def ts0 : TS := (fun _ => 0, 0, 0)
def otI (ot : Nat → Int32) : Prop := ∀ l, l < 10 → ot l = -1 ∨ ∃ o, o < 10 ∧ o ≠ l ∧ ot l = nI o
/-- only its row and wordNow are written -/
def frT (g g' : MG) : Prop := (∀ q, q ≠ 25 → q ≠ 0 → g' q = g q) ∧ ∀ j, j ≠ 26 → g' 0 j = g 0 j
theorem frT.rf {g : MG} : frT g g := ⟨fun _ _ _ => rfl, fun _ _ => rfl⟩
theorem frT.w25 {g g' : MG} (h : frT g g') (j : Nat) (x : Int32) : frT g (wr g' 25 j x) := ⟨fun q h1 h2 => by rw [wr_row _ _ _ _ h1]; exact h.1 q h1 h2, fun j' hj => by rw [wr_row _ _ _ _ (by decide)]; exact h.2 j' hj⟩
theorem frT.w0 {g g' : MG} (h : frT g g') (x : Int32) : frT g (wr g' 0 26 x) := ⟨fun q h1 h2 => by rw [wr_row _ _ _ _ h2]; exact h.1 q h1 h2, fun j' hj => by rw [wr_ne _ _ _ _ (Or.inr hj)]; exact h.2 j' hj⟩
theorem okM_fr {g g' : MG} (h : frT g g') (f k : Nat) (x : Int32) : okM g' f k x = okM g f k x := by unfold okM; rw [h.1 6 (by decide) (by decide), h.1 7 (by decide) (by decide), h.1 21 (by decide) (by decide)]
/-- what a try answers and leaves -/
def tlQ (o : Option TS) (r : Int32) (g' : MG) : Prop := match o with
  | none => r = -1
  | some s => r = s.2.1 ∧ g' 0 26 = s.2.2 ∧ ∀ l, l < 10 → g' 25 l = s.1 l
theorem szw_le {w : Nat} : szw w ≤ 10 := by
  unfold szw
  have h : ∀ f r, dgc f r ≤ f := by
    intro f
    induction f with
    | zero => intro r; exact Nat.le_refl 0
    | succ f ih =>
      intro r
      unfold dgc
      split
      · omega
      · have := ih (r / 10); omega
  have := h 9 (w / 10)
  omega
set_option maxRecDepth 100000 in
theorem c_tryLine (l : Launch) (Z : Zc) (f w : Nat) (g : MG) (hf : f < 5) (hw : w < 2 ^ 31) (hot : otI (g 9)) : MI l yX4_tryLine cX4_tryLine 6 (some .int) (rmz 1 23 0 0) Z [.ref (Z.ad 0), .int (nI f), .int (nI w)] g (fun r g' => frT g g' ∧ tlQ (tlR (okM g f) (g 9) w (szw w) ts0) r g') := by
  refine ent_i (own := RX4) (lo := [some (.ref (Z.ad 0)), some (.int (nI f)), some (.int (nI w)), none, none, none]) (by decide) rfl (by simp [lg_sl, Value.category]) rfl (fun P hl C ret => ?_)
  have loop2 : ∀ (n : Nat) (m : Nat) (s : TS) (g1 : MG) (v : Option Value), m < n → m ≤ 10 → frT g g1 → (∀ l, l < 10 → g1 25 l = s.1 l) → g1 0 26 = s.2.2 → tlR (okM g f) (g 9) w m s = tlR (okM g f) (g 9) w (szw w) ts0 → V P (rmz 1 23 0 0) Z [some (.ref (Z.ad 0)), some (.int (nI f)), some (.int (nI w)), some (.int s.2.1), some (.int (nI m - 1)), v] 39 [] g1 0 0 := by
    intro n
    induction n with
    | zero => intro m s g1 v hn hm hfr hi hwd he; exact absurd hn (Nat.not_lt_zero _)
    | succ n ih =>
      intro m s g1 v hn hm hfr hi hwd he
      refine v_iload C dX4_tryLine_39 rfl ?_
      refine v_if_lt (tgt := 123) C dX4_tryLine_41 (by decide) (fun h41 => ?_) (fun h41 => ?_)
      · cases m with
        | succ m => exact absurd h41 (by rw [nI_pred]; exact nI_pos (by omega))
        | zero =>
          refine v_iload_n C dX4_tryLine_123 rfl rfl ?_
          exact ret _ _ _ _ dX4_tryLine_124 ⟨hfr, by rw [← he]; exact ⟨rfl, hwd, hi⟩⟩
      · cases m with
        | zero => exact absurd (show nI 0 - 1 < 0 by decide) h41
        | succ m =>
          have hd : w / 10 ^ m % 10 < 10 := Nat.mod_lt _ (by decide)
          refine v_lo (lo' := [some (.ref (Z.ad 0)), some (.int (nI f)), some (.int (nI w)), some (.int s.2.1), some (.int (nI m)), v]) (by rw [nI_pred]) ?_
          obtain ⟨d, hde⟩ : ∃ d, d = w / 10 ^ m % 10 := ⟨_, rfl⟩
          have e9 : g1 9 = g 9 := hfr.1 9 (by decide) (by decide)
          rw [← hde] at hd
          have he2 : (tl1 (okM g f) (g 9) s d).bind (tlR (okM g f) (g 9) w m) = tlR (okM g f) (g 9) w (szw w) ts0 := by rw [hde]; exact he
          refine v_iload_n C dX4_tryLine_44 rfl rfl ?_
          refine v_iload C dX4_tryLine_45 rfl ?_
          refine v_callSi (n := 2) (as := [.int (nI w), .int (nI m)]) C (c_letterAt _ Z w m g1 hw (by omega)) (gs (tg4 111 rfl rfl) (tg4 112 rfl rfl) (tg1 6 rfl rfl) (tg4 113 rfl rfl)) (by decide +kernel) ⟨Nat.le_of_ble_eq_true rfl, Nat.le_of_ble_eq_true rfl⟩ rfl rfl (Nat.le_of_ble_eq_true rfl) dX4_tryLine_47 ⟨Nat.le_of_ble_eq_true rfl, Nat.le_of_ble_eq_true rfl⟩ (fun r47 g47 hp47 => ?_)
          obtain ⟨rfl, hg47⟩ := hp47
          rw [hg47]
          refine v_topi (y := nI d) (by rw [hde]) ?_
          refine v_istore (lo' := [some (.ref (Z.ad 0)), some (.int (nI f)), some (.int (nI w)), some (.int s.2.1), some (.int (nI m)), some (.int (nI d))]) C dX4_tryLine_50 (Nat.le_of_ble_eq_true rfl) rfl rfl ?_
          refine v_aload_n C dX4_tryLine_52 rfl rfl ?_
          refine v_iload_n C dX4_tryLine_53 rfl rfl ?_
          refine v_iload C dX4_tryLine_54 rfl ?_
          refine v_callVi (n := 2) (as := [.int (nI f), .int (nI d)]) C (c_isLeft _ Z f d g1 hf hd) (gv (tg4 114 rfl rfl) (tg4 116 rfl rfl) (tg0 26 rfl rfl) (tg1 6 rfl rfl) (tg4 117 rfl rfl)) (by decide +kernel) ⟨Nat.le_of_ble_eq_true rfl, Nat.le_of_ble_eq_true rfl⟩ rfl cx_M rfl rfl (Nat.le_of_ble_eq_true rfl) dX4_tryLine_56 ⟨Nat.le_of_ble_eq_true rfl, Nat.le_of_ble_eq_true rfl⟩ (fun r56 g56 hp56 => ?_)
          obtain ⟨rfl, hg56⟩ := hp56
          rw [hg56]
          refine v_topi (y := bI (okM g f d (s.1 d))) (by rw [okM_fr hfr, hi d hd]) ?_
          refine v_if_ne (tgt := 92) C dX4_tryLine_59 (by decide) (fun h59 => ?_) (fun h59 => ?_)
          · have hk := bI_1.mp h59
            refine v_aload_n C dX4_tryLine_92 rfl rfl ?_
            refine v_get C inG4 rfl 25 (by decide) (tg3 220 rfl rfl) rfl cx_M rfl dX4_tryLine_93 ?_
            refine v_iload C dX4_tryLine_96 rfl ?_
            refine v_dup2 C dX4_tryLine_98 rfl rfl ?_
            refine v_ialdN (a := d) C cxA25 ⟨hd, by decide⟩ dX4_tryLine_99 ?_
            refine v_iconst (v := 1) C dX4_tryLine_100 (by decide) ?_
            refine v_iadd C dX4_tryLine_101 ?_
            refine v_iastN (a := d) C (fun _ _ => cxA25) rfl (by omega) ⟨hd, by decide⟩ dX4_tryLine_102 ?_
            refine v_aload_n C dX4_tryLine_103 rfl rfl ?_
            refine v_bipush (v := 10) C dX4_tryLine_104 (by decide) ?_
            refine v_aload_n C dX4_tryLine_106 rfl rfl ?_
            refine v_get C inG4 rfl 26 (by decide) (tg3 221 rfl rfl) rfl cx_M rfl dX4_tryLine_107 ?_
            refine v_imul C dX4_tryLine_110 ?_
            refine v_iload C dX4_tryLine_111 rfl ?_
            refine v_iadd C dX4_tryLine_113 ?_
            refine v_put C inG4 rfl tyX4 tyX4_ok nmX4 26 (by decide) (tg3 221 rfl rfl) rfl rfl (ty := .int) rfl rfl rfl cx_M (Nat.le_of_ble_eq_true rfl) rfl (by omega) cx_M dX4_tryLine_114 ?_
            refine v_iinc (lo' := [some (.ref (Z.ad 0)), some (.int (nI f)), some (.int (nI w)), some (.int s.2.1), some (.int ((nI m) + (-1))), some (.int (nI d))]) C dX4_tryLine_117 rfl rfl rfl rfl ?_
            refine v_lo (lo' := [some (.ref (Z.ad 0)), some (.int (nI f)), some (.int (nI w)), some (.int s.2.1), some (.int (nI m - 1)), some (.int (nI d))]) (by rw [Int32.sub_eq_add_neg]) ?_
            refine v_goto (tgt := 39) C dX4_tryLine_120 (by decide) ?_
            have hs : tl1 (okM g f) (g 9) s d = some (upd s.1 d (s.1 d + 1), s.2.1, 10 * s.2.2 + nI d) := by simp [tl1, hk]
            rw [hs] at he2
            exact ih m (upd s.1 d (s.1 d + 1), s.2.1, 10 * s.2.2 + nI d) _ _ (by omega) (by omega) ((hfr.w25 _ _).w0 _) (fun l hl => by rw [wr_row _ _ _ _ (by decide), hi d hd]; exact up_row _ hi l hl) (by rw [wr_same, wr_row _ _ _ _ (by decide), hwd]) he2
          · have hk := bI_0.mp h59
            refine v_aload_n C dX4_tryLine_62 rfl rfl ?_
            refine v_get C inG4 rfl 9 (by decide) (tg3 204 rfl rfl) rfl cx_M rfl dX4_tryLine_63 ?_
            refine v_iload C dX4_tryLine_66 rfl ?_
            refine v_ialdN (a := d) C cxA9 ⟨hd, by decide⟩ dX4_tryLine_68 ?_
            refine v_topi (y := g 9 d) (by rw [e9]) ?_
            refine v_istore (lo' := [some (.ref (Z.ad 0)), some (.int (nI f)), some (.int (nI w)), some (.int s.2.1), some (.int (nI m)), some (.int (g 9 d))]) C dX4_tryLine_69 (Nat.le_of_ble_eq_true rfl) rfl rfl ?_
            refine v_iinc (lo' := [some (.ref (Z.ad 0)), some (.int (nI f)), some (.int (nI w)), some (.int (s.2.1 + 1)), some (.int (nI m)), some (.int (g 9 d))]) C dX4_tryLine_71 rfl rfl rfl rfl ?_
            refine v_iload C dX4_tryLine_74 rfl ?_
            refine v_iconst (v := (-1)) C dX4_tryLine_76 (by decide) ?_
            refine v_icmp_eq (tgt := 90) C dX4_tryLine_77 (by decide) (fun h77 => ?_) (fun h77 => ?_)
            · have hno : tl1 (okM g f) (g 9) s d = none := by simp [tl1, hk, h77]
              rw [hno] at he2
              refine v_iconst (v := (-1)) C dX4_tryLine_90 (by decide) ?_
              exact ret _ _ _ _ dX4_tryLine_91 ⟨hfr, by rw [← he2]; exact rfl⟩
            · obtain ⟨o, ho, -, hoe⟩ := (hot d hd).resolve_left h77
              refine v_lo (lo' := [some (.ref (Z.ad 0)), some (.int (nI f)), some (.int (nI w)), some (.int (s.2.1 + 1)), some (.int (nI m)), some (.int (nI o))]) (by rw [hoe]) ?_
              refine v_aload_n C dX4_tryLine_80 rfl rfl ?_
              refine v_iload_n C dX4_tryLine_81 rfl rfl ?_
              refine v_iload C dX4_tryLine_82 rfl ?_
              refine v_callVi (n := 2) (as := [.int (nI f), .int (nI o)]) C (c_isLeft _ Z f o g1 hf ho) (gv (tg4 114 rfl rfl) (tg4 116 rfl rfl) (tg0 26 rfl rfl) (tg1 6 rfl rfl) (tg4 117 rfl rfl)) (by decide +kernel) ⟨Nat.le_of_ble_eq_true rfl, Nat.le_of_ble_eq_true rfl⟩ rfl cx_M rfl rfl (Nat.le_of_ble_eq_true rfl) dX4_tryLine_84 ⟨Nat.le_of_ble_eq_true rfl, Nat.le_of_ble_eq_true rfl⟩ (fun r84 g84 hp84 => ?_)
              obtain ⟨rfl, hg84⟩ := hp84
              rw [hg84]
              refine v_topi (y := bI (okM g f o (s.1 o))) (by rw [okM_fr hfr, hi o ho]) ?_
              refine v_if_ne (tgt := 92) C dX4_tryLine_87 (by decide) (fun h87 => ?_) (fun h87 => ?_)
              · have hk2 := bI_1.mp h87
                refine v_aload_n C dX4_tryLine_92 rfl rfl ?_
                refine v_get C inG4 rfl 25 (by decide) (tg3 220 rfl rfl) rfl cx_M rfl dX4_tryLine_93 ?_
                refine v_iload C dX4_tryLine_96 rfl ?_
                refine v_dup2 C dX4_tryLine_98 rfl rfl ?_
                refine v_ialdN (a := o) C cxA25 ⟨ho, by decide⟩ dX4_tryLine_99 ?_
                refine v_iconst (v := 1) C dX4_tryLine_100 (by decide) ?_
                refine v_iadd C dX4_tryLine_101 ?_
                refine v_iastN (a := o) C (fun _ _ => cxA25) rfl (by omega) ⟨ho, by decide⟩ dX4_tryLine_102 ?_
                refine v_aload_n C dX4_tryLine_103 rfl rfl ?_
                refine v_bipush (v := 10) C dX4_tryLine_104 (by decide) ?_
                refine v_aload_n C dX4_tryLine_106 rfl rfl ?_
                refine v_get C inG4 rfl 26 (by decide) (tg3 221 rfl rfl) rfl cx_M rfl dX4_tryLine_107 ?_
                refine v_imul C dX4_tryLine_110 ?_
                refine v_iload C dX4_tryLine_111 rfl ?_
                refine v_iadd C dX4_tryLine_113 ?_
                refine v_put C inG4 rfl tyX4 tyX4_ok nmX4 26 (by decide) (tg3 221 rfl rfl) rfl rfl (ty := .int) rfl rfl rfl cx_M (Nat.le_of_ble_eq_true rfl) rfl (by omega) cx_M dX4_tryLine_114 ?_
                refine v_iinc (lo' := [some (.ref (Z.ad 0)), some (.int (nI f)), some (.int (nI w)), some (.int (s.2.1 + 1)), some (.int ((nI m) + (-1))), some (.int (nI o))]) C dX4_tryLine_117 rfl rfl rfl rfl ?_
                refine v_lo (lo' := [some (.ref (Z.ad 0)), some (.int (nI f)), some (.int (nI w)), some (.int (s.2.1 + 1)), some (.int (nI m - 1)), some (.int (nI o))]) (by rw [Int32.sub_eq_add_neg]) ?_
                refine v_goto (tgt := 39) C dX4_tryLine_120 (by decide) ?_
                have hs : tl1 (okM g f) (g 9) s d = some (upd s.1 o (s.1 o + 1), s.2.1 + 1, 10 * s.2.2 + nI o) := by simp [tl1, hk, h77, hoe, iz_nI (show o < 2 ^ 31 by omega), hk2, nI_m1 (show o < 2 ^ 31 by omega)]
                rw [hs] at he2
                exact ih m (upd s.1 o (s.1 o + 1), s.2.1 + 1, 10 * s.2.2 + nI o) _ _ (by omega) (by omega) ((hfr.w25 _ _).w0 _) (fun l hl => by rw [wr_row _ _ _ _ (by decide), hi o ho]; exact up_row _ hi l hl) (by rw [wr_same, wr_row _ _ _ _ (by decide), hwd]) he2
              · have hk2 := bI_0.mp h87
                have hno : tl1 (okM g f) (g 9) s d = none := by simp [tl1, hk, h77, hoe, iz_nI (show o < 2 ^ 31 by omega), hk2, nI_m1 (show o < 2 ^ 31 by omega)]
                rw [hno] at he2
                refine v_iconst (v := (-1)) C dX4_tryLine_90 (by decide) ?_
                exact ret _ _ _ _ dX4_tryLine_91 ⟨hfr, by rw [← he2]; exact rfl⟩
  have loop1 : ∀ (n : Nat) (k : Nat) (g1 : MG), 10 - k < n → k ≤ 10 → frT g g1 → (∀ l, l < k → g1 25 l = 0) → g1 0 26 = 0 → V P (rmz 1 23 0 0) Z [some (.ref (Z.ad 0)), some (.int (nI f)), some (.int (nI w)), some (.int 0), some (.int (nI k)), none] 10 [] g1 0 0 := by
    intro n
    induction n with
    | zero => intro k g1 hn hk hfr hi hwd; exact absurd hn (Nat.not_lt_zero _)
    | succ n ih =>
      intro k g1 hn hk hfr hi hwd
      refine v_iload C dX4_tryLine_10 rfl ?_
      refine v_bipush (v := 10) C dX4_tryLine_12 (by decide) ?_
      refine v_icmp_ge (tgt := 31) C dX4_tryLine_14 (by decide) (fun h14 => ?_) (fun h14 => ?_)
      · have hk10 : 10 ≤ k := (nI_leI (a := 10) (by decide) (by omega)).mp h14
        refine v_iload_n C dX4_tryLine_31 rfl rfl ?_
        refine v_callSi (n := 1) (as := [.int (nI w)]) C (c_size _ Z w g1 hw) (gs (tg4 108 rfl rfl) (tg4 109 rfl rfl) (tg1 6 rfl rfl) (tg4 110 rfl rfl)) (by decide +kernel) ⟨Nat.le_of_ble_eq_true rfl, Nat.le_of_ble_eq_true rfl⟩ rfl rfl (Nat.le_of_ble_eq_true rfl) dX4_tryLine_32 ⟨Nat.le_of_ble_eq_true rfl, Nat.le_of_ble_eq_true rfl⟩ (fun r32 g32 hp32 => ?_)
        obtain ⟨rfl, hg32⟩ := hp32
        rw [hg32]
        refine v_iconst (v := 1) C dX4_tryLine_35 (by decide) ?_
        refine v_isub C dX4_tryLine_36 ?_
        refine v_istore (lo' := [some (.ref (Z.ad 0)), some (.int (nI f)), some (.int (nI w)), some (.int 0), some (.int ((nI (szw w)) - 1)), none]) C dX4_tryLine_37 (Nat.le_of_ble_eq_true rfl) rfl rfl ?_
        exact loop2 (szw w + 1) (szw w) ts0 g1 none (by omega) szw_le hfr (fun l hl => hi l (by omega)) hwd rfl
      · have hk10 : ¬ 10 ≤ k := fun q => h14 ((nI_leI (a := 10) (by decide) (by omega)).mpr q)
        refine v_aload_n C dX4_tryLine_17 rfl rfl ?_
        refine v_get C inG4 rfl 25 (by decide) (tg3 220 rfl rfl) rfl cx_M rfl dX4_tryLine_18 ?_
        refine v_iload C dX4_tryLine_21 rfl ?_
        refine v_iconst (v := 0) C dX4_tryLine_23 (by decide) ?_
        refine v_iastN (a := k) C (fun _ _ => cxA25) rfl (by omega) ⟨by omega, by decide⟩ dX4_tryLine_24 ?_
        refine v_iinc (lo' := [some (.ref (Z.ad 0)), some (.int (nI f)), some (.int (nI w)), some (.int 0), some (.int ((nI k) + 1)), none]) C dX4_tryLine_25 rfl rfl rfl rfl ?_
        refine v_lo (lo' := [some (.ref (Z.ad 0)), some (.int (nI f)), some (.int (nI w)), some (.int 0), some (.int (nI (k + 1))), none]) (by rw [← nI_1 k]) ?_
        refine v_goto (tgt := 10) C dX4_tryLine_28 (by decide) ?_
        exact ih (k + 1) _ (by omega) (by omega) (hfr.w25 _ _) (fun l hl => by by_cases hlk : l = k; (· rw [hlk, wr_same]); (· rw [wr_ne _ _ _ _ (Or.inr hlk)]; exact hi l (by omega))) (by rw [wr_row _ _ _ _ (by decide)]; exact hwd)
  refine v_iconst (v := 0) C dX4_tryLine_0 (by decide) ?_
  refine v_istore_n (lo' := [some (.ref (Z.ad 0)), some (.int (nI f)), some (.int (nI w)), some (.int 0), none, none]) C dX4_tryLine_1 rfl (Nat.le_of_ble_eq_true rfl) rfl rfl ?_
  refine v_aload_n C dX4_tryLine_2 rfl rfl ?_
  refine v_iconst (v := 0) C dX4_tryLine_3 (by decide) ?_
  refine v_put C inG4 rfl tyX4 tyX4_ok nmX4 26 (by decide) (tg3 221 rfl rfl) rfl rfl (ty := .int) rfl rfl rfl cx_M (Nat.le_of_ble_eq_true rfl) rfl (by omega) cx_M dX4_tryLine_4 ?_
  refine v_iconst (v := 0) C dX4_tryLine_7 (by decide) ?_
  refine v_topi (y := nI 0) rfl ?_
  refine v_istore (lo' := [some (.ref (Z.ad 0)), some (.int (nI f)), some (.int (nI w)), some (.int 0), some (.int (nI 0)), none]) C dX4_tryLine_8 (Nat.le_of_ble_eq_true rfl) rfl rfl ?_
  exact loop1 11 0 _ (by omega) (by omega) (frT.rf.w0 _) (fun l hl => absurd hl (Nat.not_lt_zero l)) (wr_same _ _ _ _)
