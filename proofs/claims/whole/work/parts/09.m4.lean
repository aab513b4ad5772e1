/-! THE REFERENCE: a poster that is tried -/
abbrev OK : Type := (Nat → Int32) → Nat → Nat → Int32 → Bool
def okA (bl ou : Nat → Int32) : OK := fun mo f k x => decide (0 < bl (10 * f + k) - ou (10 * f + k) - mo (10 * f + k) - x)
theorem okM_A (g : MG) (f : Nat) : okM g f = okA (g 6) (g 7) (g 21) f := rfl
def fvF (okf : OK) (ot : Nat → Int32) (mo : Nat → Int32) (w f : Nat) : Int32 := trv (tlR (okf mo f) ot w (szw w) ts0)
theorem fvM_F (g : MG) (w : Nat) : fvM g w = fvF (okA (g 6) (g 7)) (g 9) (g 21) w := rfl
def boF (okf : OK) (ot ht : Nat → Int32) (tall : Int32) (nf : Nat) (mo : Nat → Int32) (w : Nat) : Int32 := (bo (fvF okf ot mo w) ht tall nf 0 (0, -1)).2
def pl1 (okf : OK) (ot ht : Nat → Int32) (tall : Int32) (nf : Nat) (mo : Nat → Int32) (w : Nat) : Option (Nat × TS) :=
  if boF okf ot ht tall nf mo w = -1 then none else (tlR (okf mo (iz (boF okf ot ht tall nf mo w))) ot w (szw w) ts0).map (fun s => (iz (boF okf ot ht tall nf mo w), s))
def spd (mo : Nat → Int32) (q : Nat × TS) : Nat → Int32 := fun j => if 10 * q.1 ≤ j ∧ j < 10 * q.1 + 10 then mo j + q.2.1 (j - 10 * q.1) else mo j
def plA (okf : OK) (ot ht : Nat → Int32) (tall : Int32) (nf : Nat) : List Nat → List (Nat × TS) → (Nat → Int32) → Option (List (Nat × TS) × (Nat → Int32))
  | [], acc, mo => some (acc, mo)
  | w :: ws, acc, mo => (pl1 okf ot ht tall nf mo w).bind fun q => plA okf ot ht tall nf ws (acc ++ [q]) (spd mo q)
def flS (L : List (Nat × TS)) : Int32 := L.foldl (fun a q => a + q.2.2.1) 0
theorem flS_app (L : List (Nat × TS)) (q : Nat × TS) : flS (L ++ [q]) = flS L + q.2.2.1 := by simp [flS]
/-- the words of a poster, from its k-th line on -/
def wds (wd : Nat → Nat) (p k n : Nat) : List Nat := (List.range' k (n - k)).map (fun q => wd (4 * p + q))
theorem wds_nil (wd : Nat → Nat) (p : Nat) {k n : Nat} (h : n ≤ k) : wds wd p k n = [] := by simp [wds, Nat.sub_eq_zero_of_le h]
theorem wds_cons (wd : Nat → Nat) (p : Nat) {k n : Nat} (h : k < n) : wds wd p k n = wd (4 * p + k) :: wds wd p (k + 1) n := by
  unfold wds
  rw [show n - k = (n - (k + 1)) + 1 by omega, List.range'_succ]
  rfl
theorem btr_ne {ht : Nat → Int32} {fl : Int32} {f : Nat} {least best : Int32} (h : btr ht fl f least best = true) : ¬ fl = -1 := by
  unfold btr at h
  split at h
  · simpa using h
  · next hh => exact fun q => hh (Or.inl q)
theorem bo_ok {fv ht : Nat → Int32} {tall : Int32} : ∀ (n f : Nat) (s : Int32 × Int32), f + n ≤ 5 → (s.2 = -1 ∨ ∃ b, b < 5 ∧ s.2 = nI b ∧ s.1 = fv b ∧ ¬ fv b = -1) → ((bo fv ht tall n f s).2 = -1 ∨ ∃ b, b < 5 ∧ (bo fv ht tall n f s).2 = nI b ∧ (bo fv ht tall n f s).1 = fv b ∧ ¬ fv b = -1) := by
  intro n
  induction n with
  | zero => intro f s _ h; exact h
  | succ n ih =>
    intro f s hf h
    unfold bo
    refine ih (f + 1) _ (by omega) ?_
    split
    · exact h
    · split
      · next hb => exact Or.inr ⟨f, by omega, rfl, rfl, btr_ne hb⟩
      · exact h
/-- what a tried poster answers and leaves -/
def plQ (o : Option (List (Nat × TS) × (Nat → Int32))) (r : Int32) (g' : MG) : Prop := match o with
  | none => r = -1
  | some (L, mo) => r = flS L ∧ g' 21 = mo ∧ ∀ i q, L[i]? = some q → g' 22 i = nI q.1 ∧ g' 23 i = q.2.2.1 ∧ g' 24 i = q.2.2.2
/-- only the rows of a try are written -/
def frP (g g' : MG) : Prop := (∀ q, (q < 21 ∨ 25 < q) → q ≠ 0 → g' q = g q) ∧ ∀ j, j ≠ 26 → g' 0 j = g 0 j
theorem frP.rf {g : MG} : frP g g := ⟨fun _ _ _ => rfl, fun _ _ => rfl⟩
theorem frP.trans {a b c : MG} (h1 : frP a b) (h2 : frP b c) : frP a c := ⟨fun q x y => (h2.1 q x y).trans (h1.1 q x y), fun j x => (h2.2 j x).trans (h1.2 j x)⟩
theorem frT.P {a b : MG} (h : frT a b) : frP a b := ⟨fun q x y => h.1 q (by omega) y, h.2⟩
theorem frP.w {g g' : MG} (h : frP g g') {k : Nat} (j : Nat) (x : Int32) (hk : 21 ≤ k ∧ k ≤ 25) : frP g (wr g' k j x) := ⟨fun q h1 h2 => by rw [wr_row _ _ _ _ (by omega)]; exact h.1 q h1 h2, fun j' hj => by rw [wr_row _ _ _ _ (by omega)]; exact h.2 j' hj⟩
def moZ (g : MG) : Nat → Int32 := fun j => if j < 50 then 0 else g 21 j
def plM (g : MG) (p nl nf : Nat) (wd : Nat → Nat) : Option (List (Nat × TS) × (Nat → Int32)) :=
  if g 15 p = 1 ∨ nl = 0 then none else plA (okA (g 6) (g 7)) (g 9) (g 5) (g 13 p) nf (wds wd p 0 nl) [] (moZ g)
set_option maxRecDepth 100000 in
theorem c_tryPoster (l : Launch) (Z : Zc) (p nl nf : Nat) (wd : Nat → Nat) (g : MG) (hp : p < 6) (hot : otI (g 9)) (hnf : g 0 1 = nI nf) (h5 : nf ≤ 5) (hnl : g 14 p = nI nl) (h4 : nl ≤ 4) (hW : ∀ j, j < 24 → g 17 j = nI (wd j) ∧ wd j < 2 ^ 31) : MI l yX4_tryPoster cX4_tryPoster 7 (some .int) (rmz 3 74 0 0) Z [.ref (Z.ad 0), .int (nI p)] g (fun r g' => frP g g' ∧ plQ (plM g p nl nf wd) r g') := by
  refine ent_i (own := RX4) (lo := [some (.ref (Z.ad 0)), some (.int (nI p)), none, none, none, none, none]) (by decide) rfl (by simp [lg_sl, Value.category]) rfl (fun P hl C ret => ?_)
  have loopC : ∀ (n : Nat) (k b : Nat) (s : TS) (gB g1 : MG) (v v2 v3 : Option Value), 10 - k < n → k ≤ 10 → b < 5 → (∀ q, q ≠ 21 → g1 q = gB q) → (∀ l, l < 10 → gB 25 l = s.1 l) → (∀ j, g1 21 j = if 10 * b ≤ j ∧ j < 10 * b + k then gB 21 j + s.1 (j - 10 * b) else gB 21 j) → (∀ g2 : MG, (∀ q, q ≠ 21 → g2 q = gB q) → g2 21 = spd (gB 21) (b, s) → V P (rmz 3 74 0 0) Z [some (.ref (Z.ad 0)), some (.int (nI p)), v, v2, v3, some (.int (nI b)), some (.int (nI 10))] 156 [] g2 0 0) → V P (rmz 3 74 0 0) Z [some (.ref (Z.ad 0)), some (.int (nI p)), v, v2, v3, some (.int (nI b)), some (.int (nI k))] 120 [] g1 0 0 := by
    intro n
    induction n with
    | zero => intro k b s gB g1 v v2 v3 hn hk hb hr hi h21 K; exact absurd hn (Nat.not_lt_zero _)
    | succ n ih =>
      intro k b s gB g1 v v2 v3 hn hk hb hr hi h21 K
      refine v_iload C dX4_tryPoster_120 rfl ?_
      refine v_bipush (v := 10) C dX4_tryPoster_122 (by decide) ?_
      refine v_icmp_ge (tgt := 156) C dX4_tryPoster_124 (by decide) (fun h124 => ?_) (fun h124 => ?_)
      · have hk10 : k = 10 := Nat.le_antisymm hk ((nI_leI (a := 10) (by decide) (by omega)).mp h124)
        subst hk10
        exact K g1 hr (funext fun j => by rw [h21]; rfl)
      · have hk10 : ¬ 10 ≤ k := fun q => h124 ((nI_leI (a := 10) (by decide) (by omega)).mpr q)
        refine v_aload_n C dX4_tryPoster_127 rfl rfl ?_
        refine v_get C inG4 rfl 21 (by decide) (tg3 216 rfl rfl) rfl cx_M rfl dX4_tryPoster_128 ?_
        refine v_bipush (v := 10) C dX4_tryPoster_131 (by decide) ?_
        refine v_iload C dX4_tryPoster_133 rfl ?_
        refine v_imul C dX4_tryPoster_135 ?_
        refine v_iload C dX4_tryPoster_136 rfl ?_
        refine v_iadd C dX4_tryPoster_138 ?_
        refine v_topi (y := nI (10 * b + k)) (nI_10 b k) ?_
        refine v_dup2 C dX4_tryPoster_139 rfl rfl ?_
        refine v_ialdN (a := (10 * b + k)) C cxA21 (by omega) dX4_tryPoster_140 ?_
        refine v_aload_n C dX4_tryPoster_141 rfl rfl ?_
        refine v_get C inG4 rfl 25 (by decide) (tg3 220 rfl rfl) rfl cx_M rfl dX4_tryPoster_142 ?_
        refine v_iload C dX4_tryPoster_145 rfl ?_
        refine v_ialdN (a := k) C cxA25 (by omega) dX4_tryPoster_147 ?_
        refine v_iadd C dX4_tryPoster_148 ?_
        refine v_iastN (a := (10 * b + k)) C (fun _ _ => cxA21) rfl (by omega) (by omega) dX4_tryPoster_149 ?_
        refine v_iinc (lo' := [some (.ref (Z.ad 0)), some (.int (nI p)), v, v2, v3, some (.int (nI b)), some (.int ((nI k) + 1))]) C dX4_tryPoster_150 rfl rfl rfl rfl ?_
        refine v_lo (lo' := [some (.ref (Z.ad 0)), some (.int (nI p)), v, v2, v3, some (.int (nI b)), some (.int (nI (k + 1)))]) (by rw [← nI_1 k]) ?_
        refine v_goto (tgt := 120) C dX4_tryPoster_153 (by decide) ?_
        refine ih (k + 1) b s gB _ v v2 v3 (by omega) (by omega) hb (fun q hq => by rw [wr_row _ _ _ _ hq]; exact hr q hq) hi (fun j => ?_) K
        rw [hr 25 (by decide), hi k (by omega)]
        by_cases hj : j = 10 * b + k
        · rw [hj, wr_same, h21, if_neg (by omega), if_pos (by omega), Nat.add_sub_cancel_left]
        · rw [wr_ne _ _ _ _ (Or.inr hj), h21]
          by_cases hc : 10 * b ≤ j ∧ j < 10 * b + k
          · rw [if_pos hc, if_pos (by omega)]
          · rw [if_neg hc, if_neg (by omega)]
  have loopB : ∀ (n : Nat) (k : Nat) (acc : List (Nat × TS)) (g1 : MG) (v v2 v3 : Option Value), nl - k < n → k ≤ nl → frP g g1 → acc.length = k → (∀ i q, acc[i]? = some q → g1 22 i = nI q.1 ∧ g1 23 i = q.2.2.1 ∧ g1 24 i = q.2.2.2) → plA (okA (g 6) (g 7)) (g 9) (g 5) (g 13 p) nf (wds wd p k nl) acc (g1 21) = plM g p nl nf wd → V P (rmz 3 74 0 0) Z [some (.ref (Z.ad 0)), some (.int (nI p)), some (.int (flS acc)), some (.int (nI k)), v, v2, v3] 46 [] g1 0 0 := by
    intro n
    induction n with
    | zero => intro k acc g1 v v2 v3 hn hk hfr hl hi he; exact absurd hn (Nat.not_lt_zero _)
    | succ n ih =>
      intro k acc g1 v v2 v3 hn hk hfr hl hi he
      refine v_iload_n C dX4_tryPoster_46 rfl rfl ?_
      refine v_aload_n C dX4_tryPoster_47 rfl rfl ?_
      refine v_get C inG4 rfl 14 (by decide) (tg3 209 rfl rfl) rfl cx_M rfl dX4_tryPoster_48 ?_
      refine v_iload_n C dX4_tryPoster_51 rfl rfl ?_
      refine v_ialdN (a := p) C cxA14 ⟨hp, by decide⟩ dX4_tryPoster_52 ?_
      refine v_topi (y := nI nl) (by rw [hfr.1 14 (by omega) (by decide)]; exact hnl) ?_
      refine v_icmp_ge (tgt := 171) C dX4_tryPoster_53 (by decide) (fun h53 => ?_) (fun h53 => ?_)
      · have hkn : k = nl := Nat.le_antisymm hk ((nI_leI (by omega) (by omega)).mp h53)
        rw [wds_nil wd p (Nat.le_of_eq hkn.symm)] at he
        refine v_iload_n C dX4_tryPoster_171 rfl rfl ?_
        exact ret _ _ _ _ dX4_tryPoster_172 ⟨hfr, by rw [← he]; exact ⟨rfl, rfl, hi⟩⟩
      · have hkn : k < nl := Nat.lt_of_not_le fun q => h53 ((nI_leI (by omega) (by omega)).mpr q)
        rw [wds_cons wd p hkn] at he
        obtain ⟨w, hw⟩ : ∃ w, w = wd (4 * p + k) := ⟨_, rfl⟩
        have hw31 : w < 2 ^ 31 := by rw [hw]; exact (hW _ (by omega)).2
        rw [← hw] at he
        obtain ⟨b0, hb0⟩ : ∃ b0, b0 = boF (okA (g 6) (g 7)) (g 9) (g 5) (g 13 p) nf (g1 21) w := ⟨_, rfl⟩
        have e6 : g1 6 = g 6 := hfr.1 6 (by omega) (by decide)
        have e7 : g1 7 = g 7 := hfr.1 7 (by omega) (by decide)
        have e9 : g1 9 = g 9 := hfr.1 9 (by omega) (by decide)
        have e5 : g1 5 = g 5 := hfr.1 5 (by omega) (by decide)
        have e13 : g1 13 = g 13 := hfr.1 13 (by omega) (by decide)
        refine v_aload_n C dX4_tryPoster_56 rfl rfl ?_
        refine v_get C inG4 rfl 17 (by decide) (tg3 212 rfl rfl) rfl cx_M rfl dX4_tryPoster_57 ?_
        refine v_iconst (v := 4) C dX4_tryPoster_60 (by decide) ?_
        refine v_iload_n C dX4_tryPoster_61 rfl rfl ?_
        refine v_imul C dX4_tryPoster_62 ?_
        refine v_topi (y := nI (4 * p)) (by rw [show (4 : Int32) = nI 4 from rfl, nI_mul]) ?_
        refine v_iload_n C dX4_tryPoster_63 rfl rfl ?_
        refine v_iadd C dX4_tryPoster_64 ?_
        refine v_topi (y := nI (4 * p + k)) (nI_add _ _) ?_
        refine v_ialdN (a := (4 * p + k)) C cxA17 (by omega) dX4_tryPoster_65 ?_
        refine v_topi (y := nI w) (by rw [hfr.1 17 (by omega) (by decide), hw]; exact (hW _ (by omega)).1) ?_
        refine v_istore (lo' := [some (.ref (Z.ad 0)), some (.int (nI p)), some (.int (flS acc)), some (.int (nI k)), some (.int (nI w)), v2, v3]) C dX4_tryPoster_66 (Nat.le_of_ble_eq_true rfl) rfl rfl ?_
        refine v_aload_n C dX4_tryPoster_68 rfl rfl ?_
        refine v_iload_n C dX4_tryPoster_69 rfl rfl ?_
        refine v_iload C dX4_tryPoster_70 rfl ?_
        refine v_callVi (n := 2) (as := [.int (nI p), .int (nI w)]) C (c_bestOf _ Z p w nf g1 hp hw31 (by rw [e9]; exact hot) ((hfr.2 1 (by decide)).trans hnf) h5) (gv (tg4 100 rfl rfl) (tg4 102 rfl rfl) (tg0 24 rfl rfl) (tg1 6 rfl rfl) (tg4 103 rfl rfl)) (by decide +kernel) ⟨Nat.le_of_ble_eq_true rfl, Nat.le_of_ble_eq_true rfl⟩ rfl cx_M rfl rfl (Nat.le_of_ble_eq_true rfl) dX4_tryPoster_72 ⟨Nat.le_of_ble_eq_true rfl, Nat.le_of_ble_eq_true rfl⟩ (fun r72 g72 hp72 => ?_)
        obtain ⟨hfr2, hr72, -⟩ := hp72
        have hb1 : r72 = b0 := by rw [hr72, hb0, e5, e13]; unfold boF; rw [fvM_F, e6, e7, e9]
        subst hb1
        have hfr3 := hfr.trans hfr2.P
        have e21 : g72 21 = g1 21 := hfr2.1 21 (by decide) (by decide)
        refine v_istore (lo' := [some (.ref (Z.ad 0)), some (.int (nI p)), some (.int (flS acc)), some (.int (nI k)), some (.int (nI w)), some (.int r72), v3]) C dX4_tryPoster_75 (Nat.le_of_ble_eq_true rfl) rfl rfl ?_
        refine v_iload C dX4_tryPoster_77 rfl ?_
        refine v_iconst (v := (-1)) C dX4_tryPoster_79 (by decide) ?_
        refine v_icmp_ne (tgt := 85) C dX4_tryPoster_80 (by decide) (fun h80 => ?_) (fun h80 => ?_)
        · obtain ⟨b, hb5, hbe, -, hfb⟩ := (bo_ok (fv := fvF (okA (g 6) (g 7)) (g 9) (g1 21) w) (ht := g 5) (tall := g 13 p) nf 0 (0, -1) (by omega) (Or.inl rfl)).resolve_left (by rw [show (bo (fvF (okA (g 6) (g 7)) (g 9) (g1 21) w) (g 5) (g 13 p) nf 0 (0, -1)).2 = r72 from hb0.symm]; exact h80)
          have hbe : r72 = nI b := hb0.trans hbe
          obtain ⟨s, hs⟩ : ∃ s, tlR (okA (g 6) (g 7) (g1 21) b) (g 9) w (szw w) ts0 = some s := by
            cases hc : tlR (okA (g 6) (g 7) (g1 21) b) (g 9) w (szw w) ts0 with
            | none => exact absurd (show trv (tlR (okA (g 6) (g 7) (g1 21) b) (g 9) w (szw w) ts0) = -1 by rw [hc]; rfl) hfb
            | some s => exact ⟨s, rfl⟩
          have hst : plA (okA (g 6) (g 7)) (g 9) (g 5) (g 13 p) nf (w :: wds wd p (k + 1) nl) acc (g1 21) = plA (okA (g 6) (g 7)) (g 9) (g 5) (g 13 p) nf (wds wd p (k + 1) nl) (acc ++ [(b, s)]) (spd (g1 21) (b, s)) := by simp only [plA, pl1]; rw [← hb0, if_neg h80, hbe, iz_nI (by omega), hs]; rfl
          rw [hst] at he
          refine v_lo (lo' := [some (.ref (Z.ad 0)), some (.int (nI p)), some (.int (flS acc)), some (.int (nI k)), some (.int (nI w)), some (.int (nI b)), v3]) (by rw [hbe]) ?_
          refine v_aload_n C dX4_tryPoster_85 rfl rfl ?_
          refine v_get C inG4 rfl 22 (by decide) (tg3 217 rfl rfl) rfl cx_M rfl dX4_tryPoster_86 ?_
          refine v_iload_n C dX4_tryPoster_89 rfl rfl ?_
          refine v_iload C dX4_tryPoster_90 rfl ?_
          refine v_iastN (a := k) C (fun _ _ => cxA22) rfl (by omega) (by omega) dX4_tryPoster_92 ?_
          refine v_aload_n C dX4_tryPoster_93 rfl rfl ?_
          refine v_get C inG4 rfl 23 (by decide) (tg3 218 rfl rfl) rfl cx_M rfl dX4_tryPoster_94 ?_
          refine v_iload_n C dX4_tryPoster_97 rfl rfl ?_
          refine v_aload_n C dX4_tryPoster_98 rfl rfl ?_
          refine v_iload C dX4_tryPoster_99 rfl ?_
          refine v_iload C dX4_tryPoster_101 rfl ?_
          refine v_callVi (n := 2) (as := [.int (nI b), .int (nI w)]) C (c_tryLine _ Z b w (wr g72 22 k (nI b)) hb5 hw31 (by rw [wr_row _ _ _ _ (by decide), hfr3.1 9 (by omega) (by decide)]; exact hot)) (gv (tg4 104 rfl rfl) (tg4 106 rfl rfl) (tg0 25 rfl rfl) (tg1 6 rfl rfl) (tg4 107 rfl rfl)) (by decide +kernel) ⟨Nat.le_of_ble_eq_true rfl, Nat.le_of_ble_eq_true rfl⟩ rfl cx_M rfl rfl (Nat.le_of_ble_eq_true rfl) dX4_tryPoster_103 ⟨Nat.le_of_ble_eq_true rfl, Nat.le_of_ble_eq_true rfl⟩ (fun r103 g103 hp103 => ?_)
          obtain ⟨hfrL, hqL⟩ := hp103
          have hokL : okM (wr g72 22 k (nI b)) b = okA (g 6) (g 7) (g1 21) b := by rw [okM_A, wr_row _ _ _ _ (by decide), wr_row _ _ _ _ (by decide), wr_row _ _ _ _ (by decide), hfr3.1 6 (by omega) (by decide), hfr3.1 7 (by omega) (by decide), e21]
          have hqs : tlQ (some s) r103 g103 := by rw [← hs, ← hokL, ← hfr3.1 9 (by omega) (by decide), ← wr_row g72 22 k (nI b) (show 9 ≠ 22 by decide)]; exact hqL
          obtain ⟨hr1, hw1, hi1⟩ := hqs
          have hfr4 : frP g g103 := (hfr3.w k (nI b) (by omega)).trans hfrL.P
          have e22 : g103 22 = wr g72 22 k (nI b) 22 := hfrL.1 22 (by decide) (by decide)
          have e23 : g103 23 = g1 23 := ((hfrL.1 23 (by decide) (by decide)).trans (wr_row _ _ _ _ (by decide))).trans (hfr2.1 23 (by decide) (by decide))
          have e24 : g103 24 = g1 24 := ((hfrL.1 24 (by decide) (by decide)).trans (wr_row _ _ _ _ (by decide))).trans (hfr2.1 24 (by decide) (by decide))
          have e21b : g103 21 = g1 21 := ((hfrL.1 21 (by decide) (by decide)).trans (wr_row _ _ _ _ (by decide))).trans e21
          have e22b : g72 22 = g1 22 := hfr2.1 22 (by decide) (by decide)
          subst hr1
          refine v_iastN (a := k) C (fun _ _ => cxA23) rfl (by omega) (by omega) dX4_tryPoster_106 ?_
          refine v_aload_n C dX4_tryPoster_107 rfl rfl ?_
          refine v_get C inG4 rfl 24 (by decide) (tg3 219 rfl rfl) rfl cx_M rfl dX4_tryPoster_108 ?_
          refine v_iload_n C dX4_tryPoster_111 rfl rfl ?_
          refine v_aload_n C dX4_tryPoster_112 rfl rfl ?_
          refine v_get C inG4 rfl 26 (by decide) (tg3 221 rfl rfl) rfl cx_M rfl dX4_tryPoster_113 ?_
          refine v_topi (y := s.2.2) (by rw [wr_row _ _ _ _ (by decide)]; exact hw1) ?_
          refine v_iastN (a := k) C (fun _ _ => cxA24) rfl (by omega) (by omega) dX4_tryPoster_116 ?_
          refine v_iconst (v := 0) C dX4_tryPoster_117 (by decide) ?_
          refine v_istore (lo' := [some (.ref (Z.ad 0)), some (.int (nI p)), some (.int (flS acc)), some (.int (nI k)), some (.int (nI w)), some (.int (nI b)), some (.int 0)]) C dX4_tryPoster_118 (Nat.le_of_ble_eq_true rfl) rfl rfl ?_
          obtain ⟨gB, hgB⟩ : ∃ gB, gB = wr (wr g103 23 k s.2.1) 24 k s.2.2 := ⟨_, rfl⟩
          rw [← hgB]
          have hB : frP g gB := by rw [hgB]; exact (hfr4.w _ _ (by omega)).w _ _ (by omega)
          have hBi : ∀ i q, (acc ++ [(b, s)])[i]? = some q → gB 22 i = nI q.1 ∧ gB 23 i = q.2.2.1 ∧ gB 24 i = q.2.2.2 := by
            intro i q hq
            rw [hgB]
            by_cases hik : i = k
            · subst hik
              rw [List.getElem?_append_right (by omega), hl, Nat.sub_self] at hq
              cases hq
              refine ⟨?_, ?_, wr_same _ _ _ _⟩
              · rw [wr_row _ _ _ _ (by decide), wr_row _ _ _ _ (by decide), e22, wr_same]
              · rw [wr_row _ _ _ _ (by decide), wr_same]
            · have hlt : i < acc.length := by
                have h9 := (List.getElem?_eq_some_iff.mp hq).1
                rw [List.length_append, List.length_singleton] at h9
                omega
              rw [List.getElem?_append_left hlt] at hq
              obtain ⟨q1, q2, q3⟩ := hi i q hq
              refine ⟨?_, ?_, ?_⟩
              · rw [wr_row _ _ _ _ (by decide), wr_row _ _ _ _ (by decide), e22, wr_ne _ _ _ _ (Or.inr hik), e22b]; exact q1
              · rw [wr_row _ _ _ _ (by decide), wr_ne _ _ _ _ (Or.inr hik), e23]; exact q2
              · rw [wr_ne _ _ _ _ (Or.inr hik), wr_row _ _ _ _ (by decide), e24]; exact q3
          have hB21 : gB 21 = g1 21 := by rw [hgB, wr_row _ _ _ _ (by decide), wr_row _ _ _ _ (by decide)]; exact e21b
          have hB23 : gB 23 k = s.2.1 := by rw [hgB, wr_row _ _ _ _ (by decide), wr_same]
          have hB25 : ∀ l, l < 10 → gB 25 l = s.1 l := fun l h => by rw [hgB, wr_row _ _ _ _ (by decide), wr_row _ _ _ _ (by decide)]; exact hi1 l h
          refine loopC 11 0 b s gB gB _ _ _ (by omega) (by omega) hb5 (fun _ _ => rfl) hB25 (fun j => by rw [if_neg (by omega)]) (fun g2 h2r h221 => ?_)
          have h2P : frP g g2 := ⟨fun q h1 h2 => (h2r q (by omega)).trans (hB.1 q h1 h2), fun j hj => by rw [h2r 0 (by decide)]; exact hB.2 j hj⟩
          refine v_iload_n C dX4_tryPoster_156 rfl rfl ?_
          refine v_aload_n C dX4_tryPoster_157 rfl rfl ?_
          refine v_get C inG4 rfl 23 (by decide) (tg3 218 rfl rfl) rfl cx_M rfl dX4_tryPoster_158 ?_
          refine v_iload_n C dX4_tryPoster_161 rfl rfl ?_
          refine v_ialdN (a := k) C cxA23 (by omega) dX4_tryPoster_162 ?_
          refine v_topi (y := s.2.1) (by rw [h2r 23 (by decide)]; exact hB23) ?_
          refine v_iadd C dX4_tryPoster_163 ?_
          refine v_topi (y := flS (acc ++ [(b, s)])) (by rw [flS_app]) ?_
          refine v_istore_n (lo' := [some (.ref (Z.ad 0)), some (.int (nI p)), some (.int (flS (acc ++ [(b, s)]))), some (.int (nI k)), some (.int (nI w)), some (.int (nI b)), some (.int (nI 10))]) C dX4_tryPoster_164 rfl (Nat.le_of_ble_eq_true rfl) rfl rfl ?_
          refine v_iinc (lo' := [some (.ref (Z.ad 0)), some (.int (nI p)), some (.int (flS (acc ++ [(b, s)]))), some (.int ((nI k) + 1)), some (.int (nI w)), some (.int (nI b)), some (.int (nI 10))]) C dX4_tryPoster_165 rfl rfl rfl rfl ?_
          refine v_lo (lo' := [some (.ref (Z.ad 0)), some (.int (nI p)), some (.int (flS (acc ++ [(b, s)]))), some (.int (nI (k + 1))), some (.int (nI w)), some (.int (nI b)), some (.int (nI 10))]) (by rw [← nI_1 k]) ?_
          refine v_goto (tgt := 46) C dX4_tryPoster_168 (by decide) ?_
          exact ih (k + 1) (acc ++ [(b, s)]) g2 _ _ _ (by omega) (by omega) h2P (by rw [List.length_append, hl]; rfl) (fun i q hq => by rw [h2r 22 (by decide), h2r 23 (by decide), h2r 24 (by decide)]; exact hBi i q hq) (by rw [h221, hB21]; exact he)
        · have hno : plA (okA (g 6) (g 7)) (g 9) (g 5) (g 13 p) nf (w :: wds wd p (k + 1) nl) acc (g1 21) = none := by simp only [plA, pl1]; rw [← hb0, if_pos h80]; rfl
          rw [hno] at he
          refine v_iconst (v := (-1)) C dX4_tryPoster_83 (by decide) ?_
          exact ret _ _ _ _ dX4_tryPoster_84 ⟨hfr3, by rw [← he]; exact rfl⟩
  have loopA : ∀ (n : Nat) (k : Nat) (g1 : MG), 50 - k < n → k ≤ 50 → (∀ q, q ≠ 21 → g1 q = g q) → (∀ j, g1 21 j = if j < k then 0 else g 21 j) → V P (rmz 3 74 0 0) Z [some (.ref (Z.ad 0)), some (.int (nI p)), some (.int (nI k)), none, none, none, none] 2 [] g1 0 0 := by
    intro n
    induction n with
    | zero => intro k g1 hn hk hr h21; exact absurd hn (Nat.not_lt_zero _)
    | succ n ih =>
      intro k g1 hn hk hr h21
      refine v_iload_n C dX4_tryPoster_2 rfl rfl ?_
      refine v_bipush (v := 50) C dX4_tryPoster_3 (by decide) ?_
      refine v_icmp_ge (tgt := 21) C dX4_tryPoster_5 (by decide) (fun h5x => ?_) (fun h5x => ?_)
      · have hk50 : k = 50 := Nat.le_antisymm hk ((nI_leI (a := 50) (by decide) (by omega)).mp h5x)
        subst hk50
        have hfr : frP g g1 := ⟨fun q h1 h2 => hr q (by omega), fun j hj => by rw [hr 0 (by decide)]⟩
        refine v_aload_n C dX4_tryPoster_21 rfl rfl ?_
        refine v_get C inG4 rfl 15 (by decide) (tg3 210 rfl rfl) rfl cx_M rfl dX4_tryPoster_22 ?_
        refine v_iload_n C dX4_tryPoster_25 rfl rfl ?_
        refine v_ialdN (a := p) C cxA15 ⟨hp, by decide⟩ dX4_tryPoster_26 ?_
        refine v_iconst (v := 1) C dX4_tryPoster_27 (by decide) ?_
        rw [hr 15 (by decide)]
        refine v_icmp_eq (tgt := 40) C dX4_tryPoster_28 (by decide) (fun h28 => ?_) (fun h28 => ?_)
        · refine v_iconst (v := (-1)) C dX4_tryPoster_40 (by decide) ?_
          exact ret _ _ _ _ dX4_tryPoster_41 ⟨hfr, by unfold plM; rw [if_pos (Or.inl h28)]; exact rfl⟩
        · refine v_aload_n C dX4_tryPoster_31 rfl rfl ?_
          refine v_get C inG4 rfl 14 (by decide) (tg3 209 rfl rfl) rfl cx_M rfl dX4_tryPoster_32 ?_
          refine v_iload_n C dX4_tryPoster_35 rfl rfl ?_
          refine v_ialdN (a := p) C cxA14 ⟨hp, by decide⟩ dX4_tryPoster_36 ?_
          refine v_topi (y := nI nl) (by rw [hr 14 (by decide)]; exact hnl) ?_
          refine v_if_ne (tgt := 42) C dX4_tryPoster_37 (by decide) (fun h37 => ?_) (fun h37 => ?_)
          · refine v_iconst (v := 0) C dX4_tryPoster_42 (by decide) ?_
            refine v_istore_n (lo' := [some (.ref (Z.ad 0)), some (.int (nI p)), some (.int 0), none, none, none, none]) C dX4_tryPoster_43 rfl (Nat.le_of_ble_eq_true rfl) rfl rfl ?_
            refine v_iconst (v := 0) C dX4_tryPoster_44 (by decide) ?_
            refine v_istore_n (lo' := [some (.ref (Z.ad 0)), some (.int (nI p)), some (.int 0), some (.int 0), none, none, none]) C dX4_tryPoster_45 rfl (Nat.le_of_ble_eq_true rfl) rfl rfl ?_
            exact loopB (nl + 1) 0 [] g1 none none none (by omega) (Nat.zero_le _) hfr rfl (fun i q hq => by simp at hq) (by unfold plM; rw [if_neg (by rintro (q | q); (· exact h28 q); (· exact h37 (by rw [q]; rfl))), show g1 21 = moZ g from funext h21])
          · refine v_iconst (v := (-1)) C dX4_tryPoster_40 (by decide) ?_
            exact ret _ _ _ _ dX4_tryPoster_41 ⟨hfr, by unfold plM; rw [if_pos (Or.inr (nI_inj (by omega) (by decide) h37))]; exact rfl⟩
      · have hk50 : ¬ 50 ≤ k := fun q => h5x ((nI_leI (a := 50) (by decide) (by omega)).mpr q)
        refine v_aload_n C dX4_tryPoster_8 rfl rfl ?_
        refine v_get C inG4 rfl 21 (by decide) (tg3 216 rfl rfl) rfl cx_M rfl dX4_tryPoster_9 ?_
        refine v_iload_n C dX4_tryPoster_12 rfl rfl ?_
        refine v_iconst (v := 0) C dX4_tryPoster_13 (by decide) ?_
        refine v_iastN (a := k) C (fun _ _ => cxA21) rfl (by omega) (by omega) dX4_tryPoster_14 ?_
        refine v_iinc (lo' := [some (.ref (Z.ad 0)), some (.int (nI p)), some (.int ((nI k) + 1)), none, none, none, none]) C dX4_tryPoster_15 rfl rfl rfl rfl ?_
        refine v_lo (lo' := [some (.ref (Z.ad 0)), some (.int (nI p)), some (.int (nI (k + 1))), none, none, none, none]) (by rw [← nI_1 k]) ?_
        refine v_goto (tgt := 2) C dX4_tryPoster_18 (by decide) ?_
        refine ih (k + 1) _ (by omega) (by omega) (fun q hq => by rw [wr_row _ _ _ _ hq]; exact hr q hq) (fun j => ?_)
        by_cases hj : j = k
        · rw [hj, wr_same, if_pos (by omega)]
        · rw [wr_ne _ _ _ _ (Or.inr hj), h21]
          by_cases hc : j < k
          · rw [if_pos hc, if_pos (by omega)]
          · rw [if_neg hc, if_neg (by omega)]
  refine v_iconst (v := 0) C dX4_tryPoster_0 (by decide) ?_
  refine v_topi (y := nI 0) rfl ?_
  refine v_istore_n (lo' := [some (.ref (Z.ad 0)), some (.int (nI p)), some (.int (nI 0)), none, none, none, none]) C dX4_tryPoster_1 rfl (Nat.le_of_ble_eq_true rfl) rfl rfl ?_
  exact loopA 51 0 g (by omega) (by omega) (fun _ _ => rfl) (fun j => by rw [if_neg (Nat.not_lt_zero j)])
