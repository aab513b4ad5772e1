/-! THE CLASS: digest, a fount's numbers -/
section VSL
variable {P : Pm} {R : Room} {Z : Zc} {cc : ByteArray} {own : String} {lo : Lo} {pc : Nat} {rest st : List Value} {g : MG} {cs sl : Nat}
theorem v_callSl (C : Cx P Z cc own) {y : MethodName} {cc' : ByteArray} {maxL idx n : Nat} {rm' : Room} {as : List Value} {post : Int64 → MG → Prop} (hM : ML P.2.1 y cc' maxL rm' Z as g post) (hG : GoodIn wsG (wsS own idx y (wz y cc' maxL (some .long))))
    (hd : y.cls = own ∧ y.cls ≠ "java/lang/invoke/MethodHandle" ∧ y.cls ≠ "java/lang/invoke/VarHandle" ∧ (parseMethodDescriptor y.desc).map (fun d => d.parameters.length) = some n) (hR : rm'.frames + 1 ≤ R.frames ∧ 8 + (maxL + 11) + rm'.locals ≤ R.locals) (hn : as.length = n) (hst : st = as.reverse ++ rest) (hr : (rest.map fun v => v.category).sum ≤ 8) (hdg : decode cc pc = .ok (.invokestatic idx, 3)) (hf : cs + rm'.cells ≤ R.cells ∧ sl + rm'.slots ≤ R.slots)
    (kk : ∀ (r : Int64) (g' : MG), post r g' → V P R Z lo (pc + 3) (.long r :: rest) g' (cs + rm'.cells) (sl + rm'.slots)) : V P R Z lo pc st g cs sl := by
  obtain ⟨p, l, e, s, m, args, below, meth, c, Q, nL⟩ := P
  subst hst
  intro ls H locs hl hw hS
  refine va_calll (va_runS (As := as) (rest := rest) ⟨C.1, C.2.1, C.2.2.1, C.2.2.2.1, C.2.2.2.2.1⟩ hM (cwS n C.2.2.2.2.1 hG rfl rfl rfl hd hR) ⟨Wd_fb, fun U hU hW => ⟨rfl, Wd_of hw C.2.2.2.2.2.1 C.2.2.2.2.2.2.1 C.2.2.2.2.2.2.2.2 hS hU hW.alike⟩⟩ rfl hn hl.2.1 rfl (lv_room hr) hdg hf) hS (fun _ _ h => h) (fun _ h => h) (fun r u t H1 locs1 ht hvm hp hB hz1 hk1 hS1 => ?_)
  refine kk r u hp ls H1 locs1 hl ?_ hS1
  rw [← ht]; exact hB.1
end VSL
theorem isN_of {a n : Nat} (h : a < n) (hn : n ≤ 100) : isN n (nI a) = true := isN_t.mpr ⟨by rw [nI_toInt (by omega)]; omega, by rw [nI_toInt (by omega)]; omega⟩
theorem inB_of {a n : Nat} (h : a ≤ n) (hn : n ≤ 100) : inB (nI a) 0 (nI n) = true := inB_t.mpr ⟨by rw [nI_toInt (by omega), show (0 : Int32).toInt = 0 from rfl]; omega, by rw [nI_toInt (by omega), nI_toInt (by omega)]; omega⟩
set_option maxRecDepth 100000 in
theorem c_mixedWithFount (l : Launch) (Z : Zc) (d : Int64) (f : Nat) (s g : MG) (hI : IvM s) (hF9 : IvF s) (hR : Rl s g) (hf : f < nfO s) : ML l yX3_mixedWithFount cX3_mixedWithFount 8 (rmz 9 285 0 0) Z [.ref (Z.ad 30), .long d, .int (nI f)] g (fun r g' => r = mixB s f 10 (mixL d (s 5 f)) ∧ g' = g) := by
  refine ent_l (own := RX3) (lo := [some (.ref (Z.ad 30)), some (.long d), none, some (.int (nI f)), none, none, none, none]) (by decide) rfl (by simp [lg_sl, Value.category]) rfl (fun P hl C ret => ?_)
  have hnf := (IvM_nf hI).2
  have hf5 := (IvM_nf hI).1
  have hn1 : g 31 2 = nI (nfO s) := hR.1.1.trans hnf
  have hF := FnP.mk hn1 hf hf5
  have loopW : ∀ (n : Nat) (w c : Nat), 3 - w < n → w ≤ 3 → c < 10 → (∀ v, V P (rmz 9 285 0 0) Z [some (.ref (Z.ad 30)), some (.long d), none, some (.int (nI f)), some (.long (mixB s f (c + 1) (mixL d (s 5 f)))), none, some (.int (nI (c + 1))), v] 23 [] g 0 0) → V P (rmz 9 285 0 0) Z [some (.ref (Z.ad 30)), some (.long d), none, some (.int (nI f)), some (.long (mixN (fun w => blkO s (10 * f + c) (nI w)) w (mixB s f c (mixL d (s 5 f))))), none, some (.int (nI c)), some (.int (nI w))] 33 [] g 0 0 := by
    intro n
    induction n with
    | zero => intro w c hm hw hc K; exact absurd hm (Nat.not_lt_zero _)
    | succ n ih =>
      intro w c hm hw hc K
      refine v_iload C dX3_mixedWithFount_33 rfl ?_
      refine v_iconst (v := 3) C dX3_mixedWithFount_35 (by decide) ?_
      refine v_icmp_ge (tgt := 61) C dX3_mixedWithFount_36 (by decide) (fun h36 => ?_) (fun h36 => ?_)
      · have hwn : w = 3 := Nat.le_antisymm hw ((nI_leI (a := 3) (by decide) (by omega)).mp h36)
        subst hwn
        refine v_iinc (lo' := [some (.ref (Z.ad 30)), some (.long d), none, some (.int (nI f)), some (.long (mixN (fun w => blkO s (10 * f + c) (nI w)) 3 (mixB s f c (mixL d (s 5 f))))), none, some (.int ((nI c) + 1)), some (.int (nI 3))]) C dX3_mixedWithFount_61 rfl rfl rfl rfl ?_
        refine v_lo (lo' := [some (.ref (Z.ad 30)), some (.long d), none, some (.int (nI f)), some (.long (mixB s f (c + 1) (mixL d (s 5 f)))), none, some (.int (nI (c + 1))), some (.int (nI 3))]) (by rw [← nI_1 c]; rfl) ?_
        refine v_goto (tgt := 23) C dX3_mixedWithFount_64 (by decide) ?_
        exact K _
      · have hwn : w < 3 := Nat.lt_of_not_le fun z => h36 ((nI_leI (a := 3) (by decide) (by omega)).mpr z)
        refine v_lload C dX3_mixedWithFount_39 rfl ?_
        refine v_aload_n C dX3_mixedWithFount_41 rfl rfl ?_
        refine v_iload_n C dX3_mixedWithFount_42 rfl rfl ?_
        refine v_iload C dX3_mixedWithFount_43 rfl ?_
        refine v_iload C dX3_mixedWithFount_45 rfl ?_
        refine v_callVi (n := 3) (as := [.int (nI f), .int (nI c), .int (nI w)]) C (m_block _ Z (nI f) (nI c) (nI w) s g hI hF9 hR (by unfold cdBlock isFL; rw [isN_of hf (by omega), isN_of hc (by omega), show inB (nI w) 0 2 = true from inB_of (n := 2) (by omega) (by omega)]; rfl)) (gv (tg2 148 rfl rfl) (tg2 35 rfl rfl) (tg2 36 rfl rfl) (tg1 1 rfl rfl) (tg2 37 rfl rfl)) (by decide +kernel) ⟨Nat.le_of_ble_eq_true rfl, Nat.le_of_ble_eq_true rfl⟩ rfl cx_T rfl rfl (Nat.le_of_ble_eq_true rfl) dX3_mixedWithFount_47 ⟨Nat.le_of_ble_eq_true rfl, Nat.le_of_ble_eq_true rfl⟩ (fun r47 g47 hp47 => ?_)
        obtain ⟨rfl, hg47⟩ := hp47
        rw [hg47]
        refine v_topi (y := blkO s (10 * f + c) (nI w)) (by unfold atO; rw [iz_nI (by omega), iz_nI (by omega)]) ?_
        refine v_callSl (n := 2) (as := [.long (mixN (fun w => blkO s (10 * f + c) (nI w)) w (mixB s f c (mixL d (s 5 f)))), .int (blkO s (10 * f + c) (nI w))]) C (c_cmixed _ Z (mixN (fun w => blkO s (10 * f + c) (nI w)) w (mixB s f c (mixL d (s 5 f)))) (blkO s (10 * f + c) (nI w)) g) (gs (tg2 140 rfl rfl) (tg2 141 rfl rfl) (tg1 1 rfl rfl) (tg2 142 rfl rfl)) (by decide +kernel) ⟨Nat.le_of_ble_eq_true rfl, Nat.le_of_ble_eq_true rfl⟩ rfl rfl (Nat.le_of_ble_eq_true rfl) dX3_mixedWithFount_50 ⟨Nat.le_of_ble_eq_true rfl, Nat.le_of_ble_eq_true rfl⟩ (fun r50 g50 hp50 => ?_)
        obtain ⟨rfl, hg50⟩ := hp50
        rw [hg50]
        refine v_topl (y := mixN (fun w => blkO s (10 * f + c) (nI w)) (w + 1) (mixB s f c (mixL d (s 5 f)))) rfl ?_
        refine v_lstore (lo' := [some (.ref (Z.ad 30)), some (.long d), none, some (.int (nI f)), some (.long (mixN (fun w => blkO s (10 * f + c) (nI w)) (w + 1) (mixB s f c (mixL d (s 5 f))))), none, some (.int (nI c)), some (.int (nI w))]) C dX3_mixedWithFount_53 (Nat.le_of_ble_eq_true rfl) rfl rfl ?_
        refine v_iinc (lo' := [some (.ref (Z.ad 30)), some (.long d), none, some (.int (nI f)), some (.long (mixN (fun w => blkO s (10 * f + c) (nI w)) (w + 1) (mixB s f c (mixL d (s 5 f))))), none, some (.int (nI c)), some (.int ((nI w) + 1))]) C dX3_mixedWithFount_55 rfl rfl rfl rfl ?_
        refine v_lo (lo' := [some (.ref (Z.ad 30)), some (.long d), none, some (.int (nI f)), some (.long (mixN (fun w => blkO s (10 * f + c) (nI w)) (w + 1) (mixB s f c (mixL d (s 5 f))))), none, some (.int (nI c)), some (.int (nI (w + 1)))]) (by rw [← nI_1 w]) ?_
        refine v_goto (tgt := 33) C dX3_mixedWithFount_58 (by decide) ?_
        exact ih (w + 1) c (by omega) (by omega) hc K
  have loop : ∀ (n : Nat) (c : Nat) (v : Option Value), 10 - c < n → c ≤ 10 → V P (rmz 9 285 0 0) Z [some (.ref (Z.ad 30)), some (.long d), none, some (.int (nI f)), some (.long (mixB s f c (mixL d (s 5 f)))), none, some (.int (nI c)), v] 23 [] g 0 0 := by
    intro n
    induction n with
    | zero => intro c v hm hc; exact absurd hm (Nat.not_lt_zero _)
    | succ n ih =>
      intro c v hm hc
      refine v_iload C dX3_mixedWithFount_23 rfl ?_
      refine v_bipush (v := 10) C dX3_mixedWithFount_25 (by decide) ?_
      refine v_icmp_ge (tgt := 67) C dX3_mixedWithFount_27 (by decide) (fun h27 => ?_) (fun h27 => ?_)
      · have hcn : c = 10 := Nat.le_antisymm hc ((nI_leI (a := 10) (by decide) (by omega)).mp h27)
        subst hcn
        refine v_lload C dX3_mixedWithFount_67 rfl ?_
        exact ret _ _ _ _ dX3_mixedWithFount_69 ⟨rfl, rfl⟩
      · have hcn : c < 10 := Nat.lt_of_not_le fun z => h27 ((nI_leI (a := 10) (by decide) (by omega)).mpr z)
        refine v_iconst (v := 0) C dX3_mixedWithFount_30 (by decide) ?_
        refine v_topi (y := nI 0) rfl ?_
        refine v_istore (lo' := [some (.ref (Z.ad 30)), some (.long d), none, some (.int (nI f)), some (.long (mixB s f c (mixL d (s 5 f)))), none, some (.int (nI c)), some (.int (nI 0))]) C dX3_mixedWithFount_31 (Nat.le_of_ble_eq_true rfl) rfl rfl ?_
        refine v_lo (lo' := [some (.ref (Z.ad 30)), some (.long d), none, some (.int (nI f)), some (.long (mixN (fun w => blkO s (10 * f + c) (nI w)) 0 (mixB s f c (mixL d (s 5 f))))), none, some (.int (nI c)), some (.int (nI 0))]) rfl ?_
        exact loopW 4 0 c (by omega) (by omega) hcn (fun v => ih (c + 1) v (by omega) (by omega))
  refine v_lload_n C dX3_mixedWithFount_0 rfl rfl ?_
  refine v_aload_n C dX3_mixedWithFount_1 rfl rfl ?_
  refine v_get C inG3 rfl 0 (by decide) (tg1 66 rfl rfl) rfl cx_T rfl dX3_mixedWithFount_2 ?_
  refine v_iload_n C dX3_mixedWithFount_5 rfl rfl ?_
  refine v_callVq (n := 1) (as := [.int (nI f)]) C (c_lget _ Z 31 36 (nfO s) f g cx_L1 hn1 hf (by omega) (fun j => Z.ad (40 + 10 * j)) (cxE1 hn1)) (gv (tg1 169 rfl rfl) (tg1 170 rfl rfl) (tg1 171 rfl rfl) (tg1 4 rfl rfl) (tg1 172 rfl rfl)) (by decide +kernel) ⟨Nat.le_of_ble_eq_true rfl, Nat.le_of_ble_eq_true rfl⟩ rfl cx_L1 rfl rfl (Nat.le_of_ble_eq_true rfl) dX3_mixedWithFount_6 ⟨Nat.le_of_ble_eq_true rfl, Nat.le_of_ble_eq_true rfl⟩ (fun r6 g6 hp6 => ?_)
  obtain ⟨rfl, hg6⟩ := hp6
  rw [hg6]
  refine v_st (st' := [.ref (Z.ad (40 + 10 * f)), .long d]) rfl ?_
  refine v_cast C rfl (tg1 200 rfl rfl) (cxF hF) dX3_mixedWithFount_9 ?_
  refine v_get C inG0 rfl 1 (by decide) (tg5 46 rfl rfl) rfl (cxF hF) rfl dX3_mixedWithFount_12 ?_
  refine v_topi (y := s 5 f) (hR.2.1 f hf).2.1 ?_
  refine v_callSl (n := 2) (as := [.long d, .int (s 5 f)]) C (c_cmixed _ Z d (s 5 f) g) (gs (tg2 140 rfl rfl) (tg2 141 rfl rfl) (tg1 1 rfl rfl) (tg2 142 rfl rfl)) (by decide +kernel) ⟨Nat.le_of_ble_eq_true rfl, Nat.le_of_ble_eq_true rfl⟩ rfl rfl (Nat.le_of_ble_eq_true rfl) dX3_mixedWithFount_15 ⟨Nat.le_of_ble_eq_true rfl, Nat.le_of_ble_eq_true rfl⟩ (fun r15 g15 hp15 => ?_)
  obtain ⟨rfl, hg15⟩ := hp15
  rw [hg15]
  refine v_topl (y := mixB s f 0 (mixL d (s 5 f))) rfl ?_
  refine v_lstore (lo' := [some (.ref (Z.ad 30)), some (.long d), none, some (.int (nI f)), some (.long (mixB s f 0 (mixL d (s 5 f)))), none, none, none]) C dX3_mixedWithFount_18 (Nat.le_of_ble_eq_true rfl) rfl rfl ?_
  refine v_iconst (v := 0) C dX3_mixedWithFount_20 (by decide) ?_
  refine v_topi (y := nI 0) rfl ?_
  refine v_istore (lo' := [some (.ref (Z.ad 30)), some (.long d), none, some (.int (nI f)), some (.long (mixB s f 0 (mixL d (s 5 f)))), none, some (.int (nI 0)), none]) C dX3_mixedWithFount_21 (Nat.le_of_ble_eq_true rfl) rfl rfl ?_
  exact loop 11 0 _ (by omega) (by omega)
