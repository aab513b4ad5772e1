/-! WHAT EACH CALL ANSWERS AND LEAVES, said of the reference's rows; the reference's plain calls -/
def isN (n : Nat) (v : Int32) : Bool := decide (0 ≤ v.toInt) && decide (v.toInt < n)
theorem isN_t {n : Nat} {v : Int32} : isN n v = true ↔ 0 ≤ v.toInt ∧ v.toInt < n := by simp [isN]
theorem isN_nI {n : Nat} {v : Int32} (h : isN n v = true) : v = nI (iz v) ∧ iz v < n := by
  obtain ⟨h1, h2⟩ := isN_t.mp h
  refine ⟨(nI_iz h1).symm, ?_⟩
  have : (iz v : Int) = v.toInt := by unfold iz; rw [Int32.toNatClampNeg]; omega
  omega
theorem inB_isN {n : Nat} {v : Int32} (hn : n ≤ 100) : inB v 0 (nI n - 1) = isN n v := by
  have e : (nI n - 1).toInt = (n : Int) - 1 := by
    have h1 : (nI n).toInt = n := nI_toInt (by omega)
    have h2 : (1 : Int32).toInt = 1 := rfl
    rw [ti_sub] <;> omega
  have h0 : (0 : Int32).toInt = 0 := rfl
  by_cases h : 0 ≤ v.toInt ∧ v.toInt < n
  · rw [isN_t.mpr h, inB_t.mpr ⟨by omega, by omega⟩]
  · rw [show isN n v = false by cases hc : isN n v; rfl; exact absurd (isN_t.mp hc) h, inB_f.mpr (by omega)]
def mn (x y : Int32) : Int32 := if y < x then y else x
def rwr (g : MG) (k : Nat) (f : Nat → Int32) : MG := fun a => if a = k then f else g a
theorem rwr_same (g : MG) (k : Nat) (f : Nat → Int32) : rwr g k f k = f := if_pos rfl
theorem rwr_ne (g : MG) (k : Nat) (f : Nat → Int32) {q : Nat} (h : q ≠ k) : rwr g k f q = g q := if_neg h
abbrev nfO (g : MG) : Nat := iz (g 0 1)
abbrev npO (g : MG) : Nat := iz (g 0 2)
abbrev nlO (g : MG) (p : Nat) : Nat := iz (g 14 p)
abbrev wdO (g : MG) (j : Nat) : Nat := iz (g 17 j)
abbrev tkO (g : MG) (j : Nat) : Nat := iz (g 20 j)
/-- bounds that the reference's own walk needs -/
def IvM (g : MG) : Prop := (∃ n, n ≤ 5 ∧ g 0 1 = nI n) ∧ (∃ n, n ≤ 6 ∧ g 0 2 = nI n) ∧ otI (g 9) ∧ (∀ p, p < 6 → ∃ n, n ≤ 4 ∧ g 14 p = nI n) ∧ (∀ p, p < 6 → ∃ t, t < 4 ∧ g 12 p = nI t) ∧ (∀ p, p < 6 → g 15 p = 0 ∨ g 15 p = 1) ∧ (∀ j, j < 24 → ∃ w, w ≤ 99999999 ∧ g 17 j = nI w) ∧ (∀ p k, p < 6 → g 15 p = 1 → k < nlO g p → (∃ f, f < 5 ∧ g 18 (4 * p + k) = nI f) ∧ ∃ t, t ≤ 99999999 ∧ g 20 (4 * p + k) = nI t)
/-- alike in all that later calls can tell -/
def RE (g g' : MG) : Prop := (∀ j, 1 ≤ j → j ≤ 4 → g' 0 j = g 0 j) ∧ (∀ k, 5 ≤ k → k ≤ 17 → g' k = g k) ∧ ∀ p k, p < 6 → g 15 p = 1 → k < nlO g p → g' 18 (4 * p + k) = g 18 (4 * p + k) ∧ g' 19 (4 * p + k) = g 19 (4 * p + k) ∧ g' 20 (4 * p + k) = g 20 (4 * p + k)
theorem RE.rf {g : MG} : RE g g := ⟨fun _ _ _ => rfl, fun _ _ _ => rfl, fun _ _ _ _ _ => ⟨rfl, rfl, rfl⟩⟩
theorem RE.of {g g' : MG} (h0 : ∀ j, 1 ≤ j → j ≤ 4 → g' 0 j = g 0 j) (h : ∀ k, 5 ≤ k → k ≤ 20 → g' k = g k) : RE g g' := ⟨h0, fun k h1 h2 => h k h1 (by omega), fun p k _ _ _ => ⟨by rw [h 18 (by decide) (by decide)], by rw [h 19 (by decide) (by decide)], by rw [h 20 (by decide) (by decide)]⟩⟩
/-- the end of a call of the reference: what it threw, its answer, its rows; nothing else -/
def PM (g : MG) (cd : Nat) (an : Int32) (st : MG) (r : Int32) (g' : MG) : Prop := g' 0 0 = nI cd ∧ (cd = 0 → r = an) ∧ RE st g' ∧ ∀ q, 26 ≤ q → g' q = g q
theorem PM.no {g : MG} {cd k : Nat} {an : Int32} {st : MG} {r : Int32} {gx : MG} (h : cd = k) (hk : ¬ k = 0) (hst : st = g) (h0 : ∀ j, 1 ≤ j → j ≤ 4 → gx 0 j = g 0 j) (hx : ∀ q, 5 ≤ q → q ≤ 20 → gx q = g q) (hy : ∀ q, 26 ≤ q → gx q = g q) : PM g cd an st r (wr gx 0 0 (nI k)) := by
  subst h; subst hst
  refine ⟨wr_same _ _ _ _, fun q => absurd q hk, RE.of (fun j h1 h2 => by rw [wr_ne _ _ _ _ (Or.inr (by omega))]; exact h0 j h1 h2) (fun q h1 h2 => by rw [wr_row _ _ _ _ (by omega)]; exact hx q h1 h2), fun q hq => by rw [wr_row _ _ _ _ (by omega)]; exact hy q hq⟩
def cdFount (g : MG) (h : Int32) : Nat := if inB h 1 20 = false then 1 else if nfO g = 5 then 2 else 0
def stFount (g : MG) (h : Int32) : MG := if cdFount g h = 0 then wr (wr g 5 (nfO g) h) 0 1 (nI (nfO g + 1)) else g
def isFL (g : MG) (f k : Int32) : Bool := isN (nfO g) f && isN 10 k
def atO (f k : Int32) : Nat := 10 * iz f + iz k
def cdBuy (g : MG) (f k m : Int32) : Nat := if isFL g f k = false then 1 else if inB m 1 9 = false then 2 else if 9 < g 6 (atO f k) + m then 3 else 0
def stBuy (g : MG) (f k m : Int32) : MG := if cdBuy g f k m = 0 then wr g 6 (atO f k) (g 6 (atO f k) + m) else g
def cdBuyAll (g : MG) (f m : Int32) : Nat := if isN (nfO g) f = false then 1 else if inB m 1 9 = false then 2 else 0
def moB (g : MG) (m : Int32) (j : Nat) : Int32 := mn m (9 - g 6 j)
def anBuyAll (g : MG) (f m : Int32) : Int32 := sumI (fun k => moB g m (10 * iz f + k)) 10
def stBuyAll (g : MG) (f m : Int32) : MG := if cdBuyAll g f m = 0 then rwr g 6 (fun j => if 10 * iz f ≤ j ∧ j < 10 * iz f + 10 then g 6 j + moB g m j else g 6 j) else g
def cdSetOther (k o : Int32) : Nat := if isN 10 k = false ∨ (¬ o = -1 ∧ isN 10 o = false) then 1 else if k = o then 2 else 0
def stSetOther (g : MG) (k o : Int32) : MG := if cdSetOther k o = 0 then wr g 9 (iz k) o else g
def cdSetTown (t p s : Int32) : Nat := if isN 4 t = false then 1 else if inB p 0 9 = false ∨ inB s 0 30 = false then 2 else 0
def stSetTown (g : MG) (t p s : Int32) : MG := if cdSetTown t p s = 0 then wr (wr g 10 (iz t) p) 11 (iz t) s else g
def cdPoster (g : MG) (t h : Int32) : Nat := if isN 4 t = false then 1 else if inB h 1 20 = false then 2 else if npO g = 6 then 3 else 0
def stPoster (g : MG) (t h : Int32) : MG := if cdPoster g t h = 0 then wr (wr (wr g 12 (npO g) t) 13 (npO g) h) 0 2 (nI (npO g + 1)) else g
def cdLine (g : MG) (p w : Int32) : Nat := if isN (npO g) p = false then 1 else if inB w 0 99999999 = false then 2 else if g 15 (iz p) = 1 ∨ nlO g (iz p) = 4 then 3 else 0
def stLine (g : MG) (p w : Int32) : MG := if cdLine g p w = 0 then wr (wr g 17 (4 * iz p + nlO g (iz p)) w) 14 (iz p) (nI (nlO g (iz p) + 1)) else g
set_option maxRecDepth 100000 in
theorem c_isFount (l : Launch) (Z : Zc) (n : Nat) (f : Int32) (g : MG) (hn : g 0 1 = nI n) (hle : n ≤ 5) : MI l yX4_isFount cX4_isFount 2 (some .boolean) (rmz 1 22 0 0) Z [.ref (Z.ad 0), .int f] g (fun r g' => r = bI (isN n f) ∧ g' = g) := by
  refine ent_z (own := RX4) (lo := [some (.ref (Z.ad 0)), some (.int f)]) (by decide) rfl (by simp [lg_sl, Value.category]) rfl (fun P hl C ret => ?_)
  refine v_iload_n C dX4_isFount_0 rfl rfl ?_
  refine v_iconst (v := 0) C dX4_isFount_1 (by decide) ?_
  refine v_aload_n C dX4_isFount_2 rfl rfl ?_
  refine v_get C inG4 rfl 1 (by decide) (tg3 196 rfl rfl) rfl cx_M rfl dX4_isFount_3 ?_
  refine v_topi (y := nI n) hn ?_
  refine v_iconst (v := 1) C dX4_isFount_6 (by decide) ?_
  refine v_isub C dX4_isFount_7 ?_
  refine v_callSi (n := 3) (as := [.int f, .int 0, .int ((nI n) - 1)]) C (c_isIn _ Z f 0 (nI n - 1) g) (gs (tg4 45 rfl rfl) (tg4 46 rfl rfl) (tg1 6 rfl rfl) (tg4 47 rfl rfl)) (by decide +kernel) ⟨Nat.le_of_ble_eq_true rfl, Nat.le_of_ble_eq_true rfl⟩ rfl rfl (Nat.le_of_ble_eq_true rfl) dX4_isFount_8 ⟨Nat.le_of_ble_eq_true rfl, Nat.le_of_ble_eq_true rfl⟩ (fun r8 g8 hp8 => ?_)
  obtain ⟨rfl, hg8⟩ := hp8
  rw [hg8]
  refine v_topi (y := bI (isN n f)) (by rw [inB_isN (by omega)]) ?_
  exact ret _ _ _ _ dX4_isFount_11 (by cases isN n f <;> simp [bI]) ⟨rfl, rfl⟩
set_option maxRecDepth 100000 in
theorem c_isPoster (l : Launch) (Z : Zc) (n : Nat) (f : Int32) (g : MG) (hn : g 0 2 = nI n) (hle : n ≤ 6) : MI l yX4_isPoster cX4_isPoster 2 (some .boolean) (rmz 1 22 0 0) Z [.ref (Z.ad 0), .int f] g (fun r g' => r = bI (isN n f) ∧ g' = g) := by
  refine ent_z (own := RX4) (lo := [some (.ref (Z.ad 0)), some (.int f)]) (by decide) rfl (by simp [lg_sl, Value.category]) rfl (fun P hl C ret => ?_)
  refine v_iload_n C dX4_isPoster_0 rfl rfl ?_
  refine v_iconst (v := 0) C dX4_isPoster_1 (by decide) ?_
  refine v_aload_n C dX4_isPoster_2 rfl rfl ?_
  refine v_get C inG4 rfl 2 (by decide) (tg3 197 rfl rfl) rfl cx_M rfl dX4_isPoster_3 ?_
  refine v_topi (y := nI n) hn ?_
  refine v_iconst (v := 1) C dX4_isPoster_6 (by decide) ?_
  refine v_isub C dX4_isPoster_7 ?_
  refine v_callSi (n := 3) (as := [.int f, .int 0, .int ((nI n) - 1)]) C (c_isIn _ Z f 0 (nI n - 1) g) (gs (tg4 45 rfl rfl) (tg4 46 rfl rfl) (tg1 6 rfl rfl) (tg4 47 rfl rfl)) (by decide +kernel) ⟨Nat.le_of_ble_eq_true rfl, Nat.le_of_ble_eq_true rfl⟩ rfl rfl (Nat.le_of_ble_eq_true rfl) dX4_isPoster_8 ⟨Nat.le_of_ble_eq_true rfl, Nat.le_of_ble_eq_true rfl⟩ (fun r8 g8 hp8 => ?_)
  obtain ⟨rfl, hg8⟩ := hp8
  rw [hg8]
  refine v_topi (y := bI (isN n f)) (by rw [inB_isN (by omega)]) ?_
  exact ret _ _ _ _ dX4_isPoster_11 (by cases isN n f <;> simp [bI]) ⟨rfl, rfl⟩
set_option maxRecDepth 100000 in
theorem c_isLetter (l : Launch) (Z : Zc) (f : Int32) (g : MG) : MI l yX4_isLetter cX4_isLetter 1 (some .boolean) (rmz 1 22 0 0) Z [.int f] g (fun r g' => r = bI (isN 10 f) ∧ g' = g) := by
  refine ent_z (own := RX4) (lo := [some (.int f)]) (by decide) rfl (by simp [lg_sl, Value.category]) rfl (fun P hl C ret => ?_)
  refine v_iload_n C dX4_isLetter_0 rfl rfl ?_
  refine v_iconst (v := 0) C dX4_isLetter_1 (by decide) ?_
  refine v_bipush (v := 9) C dX4_isLetter_2 (by decide) ?_
  refine v_callSi (n := 3) (as := [.int f, .int 0, .int 9]) C (c_isIn _ Z f 0 9 g) (gs (tg4 45 rfl rfl) (tg4 46 rfl rfl) (tg1 6 rfl rfl) (tg4 47 rfl rfl)) (by decide +kernel) ⟨Nat.le_of_ble_eq_true rfl, Nat.le_of_ble_eq_true rfl⟩ rfl rfl (Nat.le_of_ble_eq_true rfl) dX4_isLetter_4 ⟨Nat.le_of_ble_eq_true rfl, Nat.le_of_ble_eq_true rfl⟩ (fun r4 g4 hp4 => ?_)
  obtain ⟨rfl, hg4⟩ := hp4
  rw [hg4]
  refine v_topi (y := bI (isN 10 f)) (by rw [← inB_isN (by decide), show nI 10 - 1 = 9 by decide]) ?_
  exact ret _ _ _ _ dX4_isLetter_7 (by cases isN 10 f <;> simp [bI]) ⟨rfl, rfl⟩
set_option maxRecDepth 100000 in
theorem c_isTown (l : Launch) (Z : Zc) (f : Int32) (g : MG) : MI l yX4_isTown cX4_isTown 1 (some .boolean) (rmz 1 22 0 0) Z [.int f] g (fun r g' => r = bI (isN 4 f) ∧ g' = g) := by
  refine ent_z (own := RX4) (lo := [some (.int f)]) (by decide) rfl (by simp [lg_sl, Value.category]) rfl (fun P hl C ret => ?_)
  refine v_iload_n C dX4_isTown_0 rfl rfl ?_
  refine v_iconst (v := 0) C dX4_isTown_1 (by decide) ?_
  refine v_iconst (v := 3) C dX4_isTown_2 (by decide) ?_
  refine v_callSi (n := 3) (as := [.int f, .int 0, .int 3]) C (c_isIn _ Z f 0 3 g) (gs (tg4 45 rfl rfl) (tg4 46 rfl rfl) (tg1 6 rfl rfl) (tg4 47 rfl rfl)) (by decide +kernel) ⟨Nat.le_of_ble_eq_true rfl, Nat.le_of_ble_eq_true rfl⟩ rfl rfl (Nat.le_of_ble_eq_true rfl) dX4_isTown_3 ⟨Nat.le_of_ble_eq_true rfl, Nat.le_of_ble_eq_true rfl⟩ (fun r3 g3 hp3 => ?_)
  obtain ⟨rfl, hg3⟩ := hp3
  rw [hg3]
  refine v_topi (y := bI (isN 4 f)) (by rw [← inB_isN (by decide), show nI 4 - 1 = 3 by decide]) ?_
  exact ret _ _ _ _ dX4_isTown_6 (by cases isN 4 f <;> simp [bI]) ⟨rfl, rfl⟩
set_option maxRecDepth 100000 in
theorem c_fount (l : Launch) (Z : Zc) (h : Int32) (g : MG) (hI : IvM g) : MI l yX4_fount cX4_fount 2 (some .int) (rmz 2 43 0 0) Z [.ref (Z.ad 0), .int h] g (PM g (cdFount g h) (nI (nfO g)) (stFount g h)) := by
  refine ent_i (own := RX4) (lo := [some (.ref (Z.ad 0)), some (.int h)]) (by decide) rfl (by simp [lg_sl, Value.category]) rfl (fun P hl C ret => ?_)
  obtain ⟨⟨nf, hf5, hnf⟩, ⟨np, hp6, hnp⟩, hot, hnl, htn, his, hwd, htk⟩ := id hI
  have enf : nfO g = nf := by unfold nfO; rw [hnf]; exact iz_nI (by omega)
  have enp : npO g = np := by unfold npO; rw [hnp]; exact iz_nI (by omega)
  refine v_aload_n C dX4_fount_0 rfl rfl ?_
  refine v_iconst (v := 0) C dX4_fount_1 (by decide) ?_
  refine v_put C inG4 rfl tyX4 tyX4_ok nmX4 0 (by decide) (tg3 195 rfl rfl) rfl rfl (ty := .int) rfl rfl rfl cx_M (Nat.le_of_ble_eq_true rfl) rfl (by omega) cx_M dX4_fount_2 ?_
  refine v_iload_n C dX4_fount_5 rfl rfl ?_
  refine v_iconst (v := 1) C dX4_fount_6 (by decide) ?_
  refine v_bipush (v := 20) C dX4_fount_7 (by decide) ?_
  refine v_callSi (n := 3) (as := [.int h, .int 1, .int 20]) C (c_isIn _ Z h 1 20 (wr g 0 0 0)) (gs (tg4 45 rfl rfl) (tg4 46 rfl rfl) (tg1 6 rfl rfl) (tg4 47 rfl rfl)) (by decide +kernel) ⟨Nat.le_of_ble_eq_true rfl, Nat.le_of_ble_eq_true rfl⟩ rfl rfl (Nat.le_of_ble_eq_true rfl) dX4_fount_9 ⟨Nat.le_of_ble_eq_true rfl, Nat.le_of_ble_eq_true rfl⟩ (fun r9 g9 hp9 => ?_)
  obtain ⟨rfl, hg9⟩ := hp9
  rw [hg9]
  refine v_if_ne (tgt := 21) C dX4_fount_12 (by decide) (fun h12 => ?_) (fun h12 => ?_)
  · have k12 := bI_1.mp h12
    refine v_aload_n C dX4_fount_21 rfl rfl ?_
    refine v_get C inG4 rfl 1 (by decide) (tg3 196 rfl rfl) rfl cx_M rfl dX4_fount_22 ?_
    refine v_topi (y := nI nf) hnf ?_
    refine v_iconst (v := 5) C dX4_fount_25 (by decide) ?_
    refine v_icmp_ne (tgt := 35) C dX4_fount_26 (by decide) (fun h26 => ?_) (fun h26 => ?_)
    · have h26x : ¬ nf = 5 := fun q => h26 (by rw [q]; rfl)
      have hcd : cdFount g h = 0 := by unfold cdFount; rw [if_neg (by rw [k12]; decide), enf, if_neg h26x]
      refine v_aload_n C dX4_fount_35 rfl rfl ?_
      refine v_get C inG4 rfl 5 (by decide) (tg3 200 rfl rfl) rfl cx_M rfl dX4_fount_36 ?_
      refine v_aload_n C dX4_fount_39 rfl rfl ?_
      refine v_get C inG4 rfl 1 (by decide) (tg3 196 rfl rfl) rfl cx_M rfl dX4_fount_40 ?_
      rw [show wr g 0 0 0 0 1 = nI nf from hnf]
      refine v_iload_n C dX4_fount_43 rfl rfl ?_
      refine v_iastN (a := nf) C (fun _ _ => cxA5) rfl (by omega) ⟨by omega, by decide⟩ dX4_fount_44 ?_
      refine v_aload_n C dX4_fount_45 rfl rfl ?_
      refine v_dup C dX4_fount_46 rfl ?_
      refine v_get C inG4 rfl 1 (by decide) (tg3 196 rfl rfl) rfl cx_M rfl dX4_fount_47 ?_
      refine v_topi (y := nI nf) (by rw [wr_row _ _ _ _ (by decide)]; exact hnf) ?_
      refine v_iconst (v := 1) C dX4_fount_50 (by decide) ?_
      refine v_iadd C dX4_fount_51 ?_
      refine v_topi (y := nI (nf + 1)) (nI_1 nf) ?_
      refine v_put C inG4 rfl tyX4 tyX4_ok nmX4 1 (by decide) (tg3 196 rfl rfl) rfl rfl (ty := .int) rfl rfl rfl cx_M (Nat.le_of_ble_eq_true rfl) rfl (by omega) cx_M dX4_fount_52 ?_
      refine v_aload_n C dX4_fount_55 rfl rfl ?_
      refine v_get C inG4 rfl 1 (by decide) (tg3 196 rfl rfl) rfl cx_M rfl dX4_fount_56 ?_
      refine v_topi (y := nI (nf + 1)) (wr_same _ _ _ _) ?_
      refine v_iconst (v := 1) C dX4_fount_59 (by decide) ?_
      refine v_isub C dX4_fount_60 ?_
      refine v_topi (y := nI nf) (nI_pred nf) ?_
      exact ret _ _ _ _ dX4_fount_61 ⟨by rw [hcd]; rfl, fun _ => by rw [enf], by unfold stFount; rw [if_pos hcd, enf]; exact RE.of (fun j h1 h2 => by simp only [wr, rwr]; repeat' (first | rfl | (exfalso; omega) | split)) (fun q h1 h2 => by funext b; simp only [wr, rwr]; repeat' (first | rfl | (exfalso; omega) | split)), fun q hq => by funext b; simp only [wr, rwr]; repeat' (first | rfl | (exfalso; omega) | split)⟩
    · have h26x : nf = 5 := nI_inj (by omega) (by decide) h26
      refine v_aload_n C dX4_fount_29 rfl rfl ?_
      refine v_iconst (v := 2) C dX4_fount_30 (by decide) ?_
      refine v_callVi (n := 1) (as := [.int 2]) C (c_no _ Z 2 (wr g 0 0 0)) (gv (tg4 48 rfl rfl) (tg4 50 rfl rfl) (tg0 20 rfl rfl) (tg1 6 rfl rfl) (tg4 51 rfl rfl)) (by decide +kernel) ⟨Nat.le_of_ble_eq_true rfl, Nat.le_of_ble_eq_true rfl⟩ rfl cx_M rfl rfl (Nat.le_of_ble_eq_true rfl) dX4_fount_31 ⟨Nat.le_of_ble_eq_true rfl, Nat.le_of_ble_eq_true rfl⟩ (fun r31 g31 hp31 => ?_)
      obtain ⟨rfl, hg31⟩ := hp31
      rw [hg31]
      exact ret _ _ _ _ dX4_fount_34 (PM.no (k := 2) (by unfold cdFount; rw [if_neg (by rw [k12]; decide), enf, if_pos h26x]) (by decide) (by unfold stFount; rw [if_neg (by rw [show cdFount g h = 2 by unfold cdFount; rw [if_neg (by rw [k12]; decide), enf, if_pos h26x]]; decide)]) (fun j h1 h2 => wr_ne _ _ _ _ (Or.inr (by omega))) (fun q h1 h2 => wr_row _ _ _ _ (by omega)) (fun q hq => wr_row _ _ _ _ (by omega)))
  · have k12 := bI_0.mp h12
    refine v_aload_n C dX4_fount_15 rfl rfl ?_
    refine v_iconst (v := 1) C dX4_fount_16 (by decide) ?_
    refine v_callVi (n := 1) (as := [.int 1]) C (c_no _ Z 1 (wr g 0 0 0)) (gv (tg4 48 rfl rfl) (tg4 50 rfl rfl) (tg0 20 rfl rfl) (tg1 6 rfl rfl) (tg4 51 rfl rfl)) (by decide +kernel) ⟨Nat.le_of_ble_eq_true rfl, Nat.le_of_ble_eq_true rfl⟩ rfl cx_M rfl rfl (Nat.le_of_ble_eq_true rfl) dX4_fount_17 ⟨Nat.le_of_ble_eq_true rfl, Nat.le_of_ble_eq_true rfl⟩ (fun r17 g17 hp17 => ?_)
    obtain ⟨rfl, hg17⟩ := hp17
    rw [hg17]
    exact ret _ _ _ _ dX4_fount_20 (PM.no (k := 1) (by unfold cdFount; rw [if_pos k12]) (by decide) (by unfold stFount; rw [if_neg (by rw [show cdFount g h = 1 by unfold cdFount; rw [if_pos k12]]; decide)]) (fun j h1 h2 => wr_ne _ _ _ _ (Or.inr (by omega))) (fun q h1 h2 => wr_row _ _ _ _ (by omega)) (fun q hq => wr_row _ _ _ _ (by omega)))
