/-! CONSTRUCTORS: a line; fill -/
theorem dgc_le : ∀ f k r, r < 10 ^ k → dgc f r ≤ k := by
  intro f
  induction f with
  | zero => intro k r _; exact Nat.zero_le _
  | succ f ih =>
    intro k r h
    unfold dgc
    split
    · exact Nat.zero_le _
    · cases k with
      | zero => omega
      | succ k => rw [Nat.pow_succ] at h; have := ih k (r / 10) (by omega); omega
theorem szw_8 {w : Nat} (h : w ≤ 99999999) : szw w ≤ 8 := by
  have := dgc_le 9 7 (w / 10) (by omega)
  unfold szw
  omega
def lrM (w n m : Nat) : Nat → Int32 := fun j => if m ≤ j ∧ j < n then nI (w / 10 ^ (n - 1 - j) % 10) else 0
theorem lrM_n (w n : Nat) : (fun _ => (0 : Int32)) = lrM w n n := by
  funext j
  unfold lrM
  rw [if_neg (by omega)]
theorem lrM_s {w n m : Nat} (h : m < n) : upd (lrM w n (m + 1)) m (nI (w / 10 ^ (n - (m + 1)) % 10)) = lrM w n m := by
  funext j
  unfold upd lrM
  by_cases hj : j = m
  · rw [if_pos hj, if_pos (by omega), hj, show n - (m + 1) = n - 1 - m by omega]
  · by_cases hq : m + 1 ≤ j ∧ j < n
    · rw [if_neg hj, if_pos hq, if_pos (by omega)]
    · rw [if_neg hj, if_neg hq, if_neg (by omega)]
set_option maxRecDepth 100000 in
theorem k_ninit (l : Launch) (Z : Zc) (A : Nat → Prop) (a w : Nat) (hw : w ≤ 99999999) (ws0 : va_W) : MX l yX1_init cX1_init 5 (rmz 1 22 2 18) Z A [.ref a, .int (nI w)] ((a, .inr (2, [.null, .int 0, .null, .null, .int 0, .int 0])) :: ws0) (fun ws' => ∃ a1 a2 : Nat, ws' = (a2, .inl (Z.Y.1, 10, .inl (fun _ => 0))) :: (a1, .inl (Z.Y.1, 8, .inl (lrM w (szw w) 0))) :: (a, .inr (2, [.ref a1, .int (nI (szw w)), .ref a2, .null, .int 0, .int 0])) :: ws0) := by
  refine ent_x (own := RX1) (lo := [some (.ref a), some (.int (nI w)), none, none, none]) (by decide) rfl rfl (by simp [lg_sl, Value.category]) rfl (fun P hl C hA hI9 ret => ?_)
  refine nx_aload_n C dX1_init_0 rfl rfl ?_
  refine nx_obj C (tg4 185 rfl rfl) dX1_init_1 (Nat.le_of_ble_eq_true rfl) (Nat.le_of_ble_eq_true rfl) ?_
  refine nx_aload_n C dX1_init_4 rfl rfl ?_
  refine nx_bipush (v := 8) C dX1_init_5 (by decide) ?_
  refine nx_newi (N := 8) C hA (by decide) dX1_init_7 (Nat.le_of_ble_eq_true rfl) (Nat.le_of_ble_eq_true rfl) (fun q7 => ?_)
  refine nx_putF C hI9 inG1 rfl tyX1 tyX1_ok nmX1 0 (by decide) (tg4 186 rfl rfl) rfl rfl rfl (ty := (.array .int)) (by decide +kernel) rfl rfl 1 rfl (Nat.le_of_ble_eq_true rfl) (ws' := (q7, .inl (Z.Y.1, 8, .inl (fun _ => 0))) :: (a, .inr (2, [.ref q7, .int 0, .null, .null, .int 0, .int 0])) :: ws0) rfl dX1_init_9 ?_
  refine nx_aload_n C dX1_init_12 rfl rfl ?_
  refine nx_bipush (v := 10) C dX1_init_13 (by decide) ?_
  refine nx_newi (N := 10) C hA (by decide) dX1_init_15 (Nat.le_of_ble_eq_true rfl) (Nat.le_of_ble_eq_true rfl) (fun q15 => ?_)
  refine nx_putF C hI9 inG1 rfl tyX1 tyX1_ok nmX1 2 (by decide) (tg4 191 rfl rfl) rfl rfl rfl (ty := (.array .int)) (by decide +kernel) rfl rfl 2 rfl (Nat.le_of_ble_eq_true rfl) (ws' := (q15, .inl (Z.Y.1, 10, .inl (fun _ => 0))) :: (q7, .inl (Z.Y.1, 8, .inl (fun _ => 0))) :: (a, .inr (2, [.ref q7, .int 0, .ref q15, .null, .int 0, .int 0])) :: ws0) rfl dX1_init_17 ?_
  refine nx_iconst (v := 1) C dX1_init_20 (by decide) ?_
  refine nx_istore_n (lo' := [some (.ref a), some (.int (nI w)), some (.int 1), none, none]) C dX1_init_21 rfl (Nat.le_of_ble_eq_true rfl) rfl rfl ?_
  refine nx_iload_n C dX1_init_22 rfl rfl ?_
  refine nx_bipush (v := 10) C dX1_init_23 (by decide) ?_
  refine nx_idiv C dX1_init_25 (by decide) ?_
  refine nx_topi (y := nI (w / 10)) (nI_div (b := 10) (by omega) (by decide)) ?_
  refine nx_istore_n (lo' := [some (.ref a), some (.int (nI w)), some (.int 1), some (.int (nI (w / 10))), none]) C dX1_init_26 rfl (Nat.le_of_ble_eq_true rfl) rfl rfl ?_
  have hs8 := szw_8 hw
  have loop2 : ∀ (m : Nat), m ≤ szw w → VX P (rmz 1 22 2 18) Z A ((q15, .inl (Z.Y.1, 10, .inl (fun _ => 0))) :: (q7, .inl (Z.Y.1, 8, .inl (lrM w (szw w) m))) :: (a, .inr (2, [.ref q7, .int (nI (szw w)), .ref q15, .null, .int 0, .int 0])) :: ws0) [some (.ref a), some (.int (nI w)), some (.int (nI (szw w))), some (.int (nI (w / 10 ^ (szw w - m)))), some (.int (nI m - 1))] 60 [] (0 + 1 + 1) (0 + 8 + 10) := by
    intro m
    induction m with
    | zero =>
      intro hm
      refine nx_lo (lo' := [some (.ref a), some (.int (nI w)), some (.int (nI (szw w))), some (.int (nI (w / 10 ^ (szw w - 0)))), some (.int (-1))]) (by rw [show nI 0 - 1 = (-1 : Int32) from rfl]) ?_
      refine nx_iload C dX1_init_60 rfl ?_
      refine nx_if_lt (tgt := 87) C dX1_init_62 (by decide) (fun h62 => ?_) (fun h62 => ?_)
      · exact ret _ _ _ dX1_init_87 ⟨q7, q15, rfl⟩
      · exact absurd (by decide) h62
    | succ m ih =>
      intro hm
      refine nx_lo (lo' := [some (.ref a), some (.int (nI w)), some (.int (nI (szw w))), some (.int (nI (w / 10 ^ (szw w - (m + 1))))), some (.int (nI m))]) (by rw [← nI_1 m, Int32.add_sub_cancel]) ?_
      have hd9 : w / 10 ^ (szw w - (m + 1)) < 2 ^ 31 := Nat.lt_of_le_of_lt (Nat.div_le_self _ _) (by omega)
      refine nx_iload C dX1_init_60 rfl ?_
      refine nx_if_lt (tgt := 87) C dX1_init_62 (by decide) (fun h62 => ?_) (fun h62 => ?_)
      · exact absurd h62 (nI_0le (by omega))
      · refine nx_aload_n C dX1_init_65 rfl rfl ?_
        refine nx_get C inG1 rfl 0 (by decide) (tg4 186 rfl rfl) (Or.inl rfl) 2 rfl rfl dX1_init_66 ?_
        refine nx_iload C dX1_init_69 rfl ?_
        refine nx_iload_n C dX1_init_71 rfl rfl ?_
        refine nx_bipush (v := 10) C dX1_init_72 (by decide) ?_
        refine nx_irem C dX1_init_74 (by decide) ?_
        refine nx_topi (y := nI (w / 10 ^ (szw w - (m + 1)) % 10)) (nI_mod10 hd9) ?_
        refine nx_iast C 1 rfl (by omega) (ws' := (q15, .inl (Z.Y.1, 10, .inl (fun _ => 0))) :: (q7, .inl (Z.Y.1, 8, .inl (upd (lrM w (szw w) (m + 1)) m (nI (w / 10 ^ (szw w - (m + 1)) % 10))))) :: (a, .inr (2, [.ref q7, .int (nI (szw w)), .ref q15, .null, .int 0, .int 0])) :: ws0) rfl dX1_init_75 ?_
        refine nx_ws (ws' := (q15, .inl (Z.Y.1, 10, .inl (fun _ => 0))) :: (q7, .inl (Z.Y.1, 8, .inl (lrM w (szw w) m))) :: (a, .inr (2, [.ref q7, .int (nI (szw w)), .ref q15, .null, .int 0, .int 0])) :: ws0) (by rw [lrM_s (by omega)]) ?_
        refine nx_iload_n C dX1_init_76 rfl rfl ?_
        refine nx_bipush (v := 10) C dX1_init_77 (by decide) ?_
        refine nx_idiv C dX1_init_79 (by decide) ?_
        refine nx_topi (y := nI (w / 10 ^ (szw w - m))) (by rw [show (10 : Int32) = nI 10 from rfl, nI_div hd9 (by decide), Nat.div_div_eq_div_mul, ← Nat.pow_succ, show (szw w - (m + 1)).succ = szw w - m by omega]) ?_
        refine nx_istore_n (lo' := [some (.ref a), some (.int (nI w)), some (.int (nI (szw w))), some (.int (nI (w / 10 ^ (szw w - m)))), some (.int (nI m))]) C dX1_init_80 rfl (Nat.le_of_ble_eq_true rfl) rfl rfl ?_
        refine nx_iinc (lo' := [some (.ref a), some (.int (nI w)), some (.int (nI (szw w))), some (.int (nI (w / 10 ^ (szw w - m)))), some (.int ((nI m) + (-1)))]) C dX1_init_81 rfl rfl rfl rfl ?_
        refine nx_lo (lo' := [some (.ref a), some (.int (nI w)), some (.int (nI (szw w))), some (.int (nI (w / 10 ^ (szw w - m)))), some (.int (nI m - 1))]) (by rw [show nI m + (-1) = nI m - 1 by grind]) ?_
        refine nx_goto (tgt := 60) C dX1_init_84 (by decide) ?_
        exact ih (by omega)
  have loop1 : ∀ (f m r : Nat), m + f = 10 → 1 ≤ m → m ≤ 8 → r < 10 ^ (8 - m) → r < 2 ^ 31 → m + dgc f r = szw w → VX P (rmz 1 22 2 18) Z A ((q15, .inl (Z.Y.1, 10, .inl (fun _ => 0))) :: (q7, .inl (Z.Y.1, 8, .inl (fun _ => 0))) :: (a, .inr (2, [.ref q7, .int 0, .ref q15, .null, .int 0, .int 0])) :: ws0) [some (.ref a), some (.int (nI w)), some (.int (nI m)), some (.int (nI r)), none] 27 [] (0 + 1 + 1) (0 + 8 + 10) := by
    intro f
    induction f with
    | zero => intro m r h1 h2 h3; omega
    | succ f ih =>
      intro m r h1 h2 h3 h4 h5 h6
      refine nx_iload_n C dX1_init_27 rfl rfl ?_
      refine nx_if_le (tgt := 48) C dX1_init_28 (by decide) (fun h28 => ?_) (fun h28 => ?_)
      · have hr0 : r = 0 := nI_z h5 h28
        have hms : m = szw w := by rw [← h6, hr0]; simp [dgc]
        subst hr0
        refine nx_lo (lo' := [some (.ref a), some (.int (nI w)), some (.int (nI (szw w))), some (.int (nI 0)), none]) (by rw [hms]) ?_
        refine nx_aload_n C dX1_init_48 rfl rfl ?_
        refine nx_iload_n C dX1_init_49 rfl rfl ?_
        refine nx_putF C hI9 inG1 rfl tyX1 tyX1_ok nmX1 1 (by decide) (tg4 188 rfl rfl) rfl rfl rfl (ty := .int) (by decide +kernel) rfl rfl 2 rfl (Nat.le_of_ble_eq_true rfl) (ws' := (q15, .inl (Z.Y.1, 10, .inl (fun _ => 0))) :: (q7, .inl (Z.Y.1, 8, .inl (fun _ => 0))) :: (a, .inr (2, [.ref q7, .int (nI (szw w)), .ref q15, .null, .int 0, .int 0])) :: ws0) rfl dX1_init_50 ?_
        refine nx_iload_n C dX1_init_53 rfl rfl ?_
        refine nx_topi (y := nI (w / 10 ^ (szw w - szw w))) (by rw [Nat.sub_self, Nat.pow_zero, Nat.div_one]) ?_
        refine nx_istore_n (lo' := [some (.ref a), some (.int (nI w)), some (.int (nI (szw w))), some (.int (nI (w / 10 ^ (szw w - szw w)))), none]) C dX1_init_54 rfl (Nat.le_of_ble_eq_true rfl) rfl rfl ?_
        refine nx_iload_n C dX1_init_55 rfl rfl ?_
        refine nx_iconst (v := 1) C dX1_init_56 (by decide) ?_
        refine nx_isub C dX1_init_57 ?_
        refine nx_istore (lo' := [some (.ref a), some (.int (nI w)), some (.int (nI (szw w))), some (.int (nI (w / 10 ^ (szw w - szw w)))), some (.int ((nI (szw w)) - 1))]) C dX1_init_58 (Nat.le_of_ble_eq_true rfl) rfl rfl ?_
        refine nx_ws (ws' := (q15, .inl (Z.Y.1, 10, .inl (fun _ => 0))) :: (q7, .inl (Z.Y.1, 8, .inl (lrM w (szw w) (szw w)))) :: (a, .inr (2, [.ref q7, .int (nI (szw w)), .ref q15, .null, .int 0, .int 0])) :: ws0) (by rw [lrM_n w (szw w)]) ?_
        exact loop2 (szw w) (Nat.le_refl _)
      · have hrp : 0 < r := nI_p h5 h28
        refine nx_iload_n C dX1_init_31 rfl rfl ?_
        refine nx_bipush (v := 8) C dX1_init_32 (by decide) ?_
        refine nx_icmp_ge (tgt := 48) C dX1_init_34 (by decide) (fun h34 => ?_) (fun h34 => ?_)
        · exfalso
          have hm8 : 8 ≤ m := (nI_leI (a := 8) (by decide) (by omega)).mp h34
          have : m = 8 := by omega
          subst this
          rw [Nat.sub_self, Nat.pow_zero] at h4
          omega
        · have hm8 : ¬ 8 ≤ m := fun q => h34 ((nI_leI (a := 8) (by decide) (by omega)).mpr q)
          refine nx_iinc (lo' := [some (.ref a), some (.int (nI w)), some (.int ((nI m) + 1)), some (.int (nI r)), none]) C dX1_init_37 rfl rfl rfl rfl ?_
          refine nx_lo (lo' := [some (.ref a), some (.int (nI w)), some (.int (nI (m + 1))), some (.int (nI r)), none]) (by rw [← nI_1 m]) ?_
          refine nx_iload_n C dX1_init_40 rfl rfl ?_
          refine nx_bipush (v := 10) C dX1_init_41 (by decide) ?_
          refine nx_idiv C dX1_init_43 (by decide) ?_
          refine nx_topi (y := nI (r / 10)) (nI_div (b := 10) h5 (by decide)) ?_
          refine nx_istore_n (lo' := [some (.ref a), some (.int (nI w)), some (.int (nI (m + 1))), some (.int (nI (r / 10))), none]) C dX1_init_44 rfl (Nat.le_of_ble_eq_true rfl) rfl rfl ?_
          refine nx_goto (tgt := 27) C dX1_init_45 (by decide) ?_
          exact ih (m + 1) (r / 10) (by omega) (by omega) (by omega) (by rw [show 8 - m = (8 - (m + 1)) + 1 by omega, Nat.pow_succ] at h4; omega) (by omega) (by rw [← h6]; simp only [dgc, Nat.ne_of_gt hrp, if_false]; omega)
  refine nx_lo (lo' := [some (.ref a), some (.int (nI w)), some (.int (nI 1)), some (.int (nI (w / 10))), none]) rfl ?_
  exact loop1 9 1 (w / 10) (by decide) (by decide) (by decide) (by show w / 10 < 10 ^ 7; omega) (by omega) rfl
section NXL
variable {P : Pm} {R : Room} {Z : Zc} {A : Nat → Prop} {ws : va_W} {cc : ByteArray} {own : String} {lo : Lo} {pc : Nat} {rest st : List Value} {cs sl : Nat}
theorem nx_alen (C : Cx P Z cc own) (q0 : Nat) {a n : Nat} {f : Nat → Int32} (he : ws[q0]? = some (a, .inl (Z.Y.1, n, .inl f))) (hdg : decode cc pc = .ok (.arraylength, 1)) (kk : VX P R Z A ws lo (pc + 1) (.int (nI n) :: rest) cs sl) : VX P R Z A ws lo pc (.ref a :: rest) cs sl := by
  obtain ⟨p, l, e, s, m, args, below, meth, c, Q, nL⟩ := P
  exact fun ls H locs hl hP hD hS => va_alen (D := Z.D) C.1 C.2.1 C.2.2.2.2.2.1 hP q0 0 he rfl rfl hdg (kk ls H locs hl hP hD hS)
/-- a static method of another class, that answers nothing -/
theorem nx_callS (C : Cx P Z cc own) (hA : CxA P Z A) {y : MethodName} {cc' : ByteArray} {maxL idx n : Nat} {rm' : Room} {as : List Value} {post : va_W → Prop} (hM : MX P.2.1 y cc' maxL rm' Z A as ws post) (hG : GoodIn wsG (va_wsS own idx y (wz y cc' maxL none)))
    (hd : y.cls ≠ "java/lang/invoke/MethodHandle" ∧ y.cls ≠ "java/lang/invoke/VarHandle" ∧ (parseMethodDescriptor y.desc).map (fun d => d.parameters.length) = some n) (hR : rm'.frames + 1 ≤ R.frames ∧ 8 + (maxL + 11) + rm'.locals ≤ R.locals) (hn : as.length = n) (hst : st = as.reverse ++ rest) (hr : (rest.map fun v => v.category).sum ≤ 8) (hdg : decode cc pc = .ok (.invokestatic idx, 3)) (hf : cs + rm'.cells ≤ R.cells ∧ sl + rm'.slots ≤ R.slots)
    (kk : ∀ ws', post ws' → VX P R Z A ws' lo (pc + 3) rest (cs + rm'.cells) (sl + rm'.slots)) : VX P R Z A ws lo pc st cs sl := by
  obtain ⟨p, l, e, s, m, args, below, meth, c, Q, nL⟩ := P
  subst hst
  intro ls H locs hl hP hD hS
  refine va_callv (va_runS (As := as) (rest := rest) ⟨C.1, C.2.1, C.2.2.1, C.2.2.2.1, C.2.2.2.2.1⟩ hM (va_cwS n C.2.2.2.2.1 hG rfl rfl rfl hd hR) ⟨WX_fb, fun U hU hW => ⟨rfl, WX_of hA.1 hA.2 hP hD C.2.2.2.2.2.1 C.2.2.2.2.2.2.1 C.2.2.2.2.2.2.2.2 hS hU hW.alike⟩⟩ rfl hn hl.2.1 rfl (lv_room hr) hdg hf) hS (fun _ _ h => h) (fun _ h => h) (fun u t H1 locs1 ht hvm hp hB hz1 hk1 hS1 => ?_)
  exact kk u hp ls H1 locs1 hl (by rw [← ht]; exact hB.2.2.1) hB.2.2.2.1 hS1
end NXL
def flF (f : Nat → Int32) (v : Int32) (c : Nat) : Nat → Int32 := fun j => if j < c then v else f j
theorem flF_0 (f : Nat → Int32) (v : Int32) : flF f v 0 = f := by funext j; unfold flF; rw [if_neg (Nat.not_lt_zero j)]
theorem flF_s (f : Nat → Int32) (v : Int32) (c : Nat) : upd (flF f v c) c v = flF f v (c + 1) := by
  funext j
  unfold upd flF
  by_cases hj : j = c
  · rw [if_pos hj, if_pos (by omega)]
  · by_cases hq : j < c
    · rw [if_neg hj, if_pos hq, if_pos (by omega)]
    · rw [if_neg hj, if_neg hq, if_neg (by omega)]
set_option maxRecDepth 100000 in
theorem k_fill (l : Launch) (Z : Zc) (A : Nat → Prop) (a n q0 : Nat) (v : Int32) (f : Nat → Int32) (ws : va_W) (he : ws[q0]? = some (a, .inl (Z.Y.1, n, .inl f))) (hn : n < 1000) : MX l yJ7_fill_53178 cJ7_fill_53178 4 (rmz 0 0 0 0) Z A [.ref a, .int v] ws (fun ws' => ws' = ws.set q0 (a, .inl (Z.Y.1, n, .inl (flF f v n)))) := by
  refine ent_xs (own := RJ7) (lo := [some (.ref a), some (.int v), none, none]) (by decide) rfl (by simp [lg_sl, Value.category]) rfl (fun P hl C hA ret => ?_)
  have hlt : q0 < ws.length := (List.getElem?_eq_some_iff.mp he).1
  have loop : ∀ (m c : Nat), n - c < m → c ≤ n → VX P (rmz 0 0 0 0) Z A (ws.set q0 (a, .inl (Z.Y.1, n, .inl (flF f v c)))) [some (.ref a), some (.int v), some (.int (nI c)), some (.int (nI n))] 5 [] 0 0 := by
    intro m
    induction m with
    | zero => intro c hm; exact absurd hm (Nat.not_lt_zero _)
    | succ m ih =>
      intro c hm hc
      refine nx_iload_n C dJ7_fill_53178_5 rfl rfl ?_
      refine nx_iload_n C dJ7_fill_53178_6 rfl rfl ?_
      refine nx_icmp_ge (tgt := 20) C dJ7_fill_53178_7 (by decide) (fun h7 => ?_) (fun h7 => ?_)
      · have hkn : c = n := Nat.le_antisymm hc ((nI_leI (by omega) (by omega)).mp h7)
        subst hkn
        exact ret _ _ _ dJ7_fill_53178_20 rfl
      · have hkn : c < n := Nat.lt_of_not_le fun q => h7 ((nI_leI (by omega) (by omega)).mpr q)
        refine nx_aload_n C dJ7_fill_53178_10 rfl rfl ?_
        refine nx_iload_n C dJ7_fill_53178_11 rfl rfl ?_
        refine nx_iload_n C dJ7_fill_53178_12 rfl rfl ?_
        refine nx_iast (ws' := ws.set q0 (a, .inl (Z.Y.1, n, .inl (flF f v (c + 1))))) C q0 (List.getElem?_set_self hlt) (by omega) (by rw [List.set_set, flF_s]) dJ7_fill_53178_13 ?_
        refine nx_iinc (lo' := [some (.ref a), some (.int v), some (.int ((nI c) + 1)), some (.int (nI n))]) C dJ7_fill_53178_14 rfl rfl rfl rfl ?_
        refine nx_lo (lo' := [some (.ref a), some (.int v), some (.int (nI (c + 1))), some (.int (nI n))]) (by rw [← nI_1 c]) ?_
        refine nx_goto (tgt := 5) C dJ7_fill_53178_17 (by decide) ?_
        exact ih (c + 1) (by omega) (by omega)
  refine nx_iconst (v := 0) C dJ7_fill_53178_0 (by decide) ?_
  refine nx_topi (y := nI 0) rfl ?_
  refine nx_istore_n (lo' := [some (.ref a), some (.int v), some (.int (nI 0)), none]) C dJ7_fill_53178_1 rfl (Nat.le_of_ble_eq_true rfl) rfl rfl ?_
  refine nx_aload_n C dJ7_fill_53178_2 rfl rfl ?_
  refine nx_alen C q0 he dJ7_fill_53178_3 ?_
  refine nx_istore_n (lo' := [some (.ref a), some (.int v), some (.int (nI 0)), some (.int (nI n))]) C dJ7_fill_53178_4 rfl (Nat.le_of_ble_eq_true rfl) rfl rfl ?_
  refine nx_ws (ws' := ws.set q0 (a, .inl (Z.Y.1, n, .inl (flF f v 0)))) (by rw [flF_0, set_self he]) ?_
  exact loop (n + 1) 0 (by omega) (by omega)
