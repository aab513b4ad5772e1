/-! THE LAW'S OWN METHODS: a call, caught -/
def MW (l : Launch) (y : MethodName) (cc : ByteArray) (maxL : Nat) (hh : List (Nat × Nat × Nat × Nat)) (rm : Room) (Z : Zc) (as : List Value) (g : MG) (post : Int32 → (Nat → Nat) × MG → Prop) : Prop := Met l y (Cond.codeWith y cc maxL (some .int) hh :: wsG) rm (va_Pc as (fun U => Wd Z g U ∧ StrA U)) (va_Qi post (fun u t => Wd (Z.wa u.1) u.2 t) (A0 Z.z)) rm.cells rm.slots (A0 Z.z)
/-- what such a method answers: the number of the exception, or 0 and the answer in the law's cell -/
def WQ (Z : Zc) (g : MG) (cd : Nat) (an : Int32) (st : MG) : Int32 → (Nat → Nat) × MG → Prop := fun r u => r = nI cd ∧ adE Z u.1 ∧ ∃ g1, Rl st g1 ∧ FrK g g1 ∧ u.2 = if cd = 0 then wr g1 500 0 an else g1
theorem adE.rf {Z : Zc} : adE Z Z.ad := ⟨fun _ _ => rfl, rfl⟩
theorem ent_w {l : Launch} {y : MethodName} {cc : ByteArray} {maxL : Nat} {hh : List (Nat × Nat × Nat × Nat)} {rm : Room} {Z : Zc} {as : List Value} {g : MG} {post : Int32 → (Nat → Nat) × MG → Prop} {lo : Lo} (hy : plainName y.cls = true) (ho : y.cls = "PosterTypesLaw") (hlen : (lg_sl as).length ≤ maxL) (hlo : loA (lv_args 0 as) maxL = lo)
    (body : ∀ P : Pm, P.2.1 = l → Cx P Z cc "PosterTypesLaw" → CxS P → CxT P hh → (∀ (ad' : Nat → Nat) (pc : Nat) (lo' : Lo) (v : Int32) (g' : MG), decode cc pc = .ok (.ireturn, 1) → post v (ad', g') → V P rm (Z.wa ad') lo' pc [.int v] g' rm.cells rm.slots) → V P rm Z lo 0 [] g 0 0) : MW l y cc maxL hh rm Z as g post := by
  refine va_MetW (cc := cc) (maxL := maxL) (ret := some .int) (hh := hh) hy rfl ?_
  intro p e s m args below meth c s₁ B hml hv
  obtain ⟨rfl, ⟨hw, hK, hz, hst⟩, hA⟩ := hv
  have hts0 : ∀ w ∈ Cond.codeWith y cc maxL (some .int) hh :: wsG, w.before as.toArray s = true := atoms_spec (ws := Cond.codeWith y cc maxL (some .int) hh :: wsG) B.pre
  have hts : ∀ w ∈ wsG, w.before as.toArray s = true := fun w h => hts0 w (List.mem_cons_of_mem _ h)
  have htab := vx_table (x := y) B (hts0 _ List.mem_cons_self)
  have hown : s.vm.findClass "PosterTypesLaw" = some m.cls := ho ▸ findClass_of_methodNamed B.named
  have hl := lv_entry as hlen
  rw [lg_entry_eq]
  generalize (lg_sl as ++ List.replicate (maxL - (lg_sl as).length) Slot.unset).toArray = ls at hl ⊢
  refine body (p, l, e, s, m, as.toArray, below, meth, c, _, maxL) rfl ⟨B.exec, B.bytes, hml, hown, hts, hK, hz, B.notSynchronized, hst⟩ hA htab ?_ ls s.heap [] (hlo ▸ Lv_of hl) hw va_S.rf
  intro ad' pc lo' v g' hdg hp ls H locs hl hw' hS
  exact W.iret B.exec B.bytes B.returns (fun t ht hW => ⟨⟨v, (ad', g'), rfl, hp, Wd_of (Z := Z.wa ad') hw' hK hz hst hS ht hW.alike⟩, hS.F ht⟩) hS.2.2 hdg
theorem le_fount (h : Int32) (s : MG) : cdFount s h ≤ 2 := by
  unfold cdFount
  repeat' split
  all_goals decide
set_option maxRecDepth 100000 in
theorem w_fount (l : Launch) (hl9 : l.stackTraces = false) (Z : Zc) (h : Int32) (N : Nat) (s g : MG) (hI : LI N s) (hR : Rl s g) : MW l yL_fount cL_fount 4 [(0, 9, 12, 13), (0, 9, 15, 15)] (rmz 9 290 6 60) Z [.ref (Z.ad 30), .int h, .ref (Z.ad 500)] g (WQ Z g (cdFount s h) (nI (nfO s)) (stFount s h)) := by
  refine ent_w (lo := [some (.ref (Z.ad 30)), some (.int h), some (.ref (Z.ad 500)), none]) (by decide) rfl (by simp [lg_sl, Value.category]) rfl (fun P hl C hS hT ret => ?_)
  refine v_aload_n C dL_fount_0 rfl rfl ?_
  refine v_iconst (v := 0) C dL_fount_1 (by decide) ?_
  refine v_aload_n C dL_fount_2 rfl rfl ?_
  refine v_iload_n C dL_fount_3 rfl rfl ?_
  refine v_callM (n := 1) (as := [.int h]) C hS (x_fount _ (by rw [hl]; exact hl9) Z h s g hI.1 hI.2.2.1 hR) (gv (tg2 91 rfl rfl) (tg2 92 rfl rfl) (tg2 93 rfl rfl) (tg1 1 rfl rfl) (tg2 94 rfl rfl)) (by decide +kernel) ⟨Nat.le_of_ble_eq_true rfl, Nat.le_of_ble_eq_true rfl⟩ rfl cx_T rfl rfl (Nat.le_of_ble_eq_true rfl) dL_fount_4 ⟨Nat.le_of_ble_eq_true rfl, Nat.le_of_ble_eq_true rfl⟩ (fun E q g1 hp => ?_) (fun r ad9 g1 hp => ?_)
  · obtain ⟨hne, hE, hR1, hF1⟩ := hp
    have hle := le_fount h s
    by_cases hc1 : cdFount s h = 1
    · subst hE
      rw [hc1]
      show VT P _ _ _ _ _ (exC 1) q g1 _ _
      refine v_catch C hS hT 0 (k := 1) rfl ⟨by decide, by decide⟩ (by decide) (tg2 89 rfl rfl) (List.mem_of_getElem? (i := 4) rfl) (fun j hj => absurd hj (Nat.not_lt_zero j)) ?_
      refine v_astore_n (lo' := [some (.ref (Z.ad 30)), some (.int h), some (.ref (Z.ad 500)), some (.ref q)]) C dL_fount_12 rfl (Nat.le_of_ble_eq_true rfl) rfl rfl ?_
      refine v_iconst (v := 1) C dL_fount_13 (by decide) ?_
      exact ret _ _ _ _ _ dL_fount_14 ⟨by rw [hc1]; rfl, adE.rf, g1, hR1, hF1, by rw [if_neg hne]⟩
    · have hc2 : cdFount s h = 2 := by omega
      subst hE
      rw [hc2]
      show VT P _ _ _ _ _ (exC 2) q g1 _ _
      refine v_catch C hS hT 1 (k := 2) rfl ⟨by decide, by decide⟩ (by decide) (tg2 90 rfl rfl) (List.mem_of_getElem? (i := 5) rfl) (fun j hj => by obtain rfl := (show j = 0 by omega); exact ⟨_, 1, rfl, by decide, (tg2 89 rfl rfl), List.mem_of_getElem? (i := 2) rfl⟩) ?_
      refine v_astore_n (lo' := [some (.ref (Z.ad 30)), some (.int h), some (.ref (Z.ad 500)), some (.ref q)]) C dL_fount_15 rfl (Nat.le_of_ble_eq_true rfl) rfl rfl ?_
      refine v_iconst (v := 2) C dL_fount_16 (by decide) ?_
      exact ret _ _ _ _ _ dL_fount_17 ⟨by rw [hc2]; rfl, adE.rf, g1, hR1, hF1, by rw [if_neg hne]⟩
  · obtain ⟨hcd, han, hR1, hF1, hE1⟩ := hp
    refine v_i2l (C.wa ad9) dL_fount_7 ?_
    refine v_st (st' := [.long r.toInt64, .int 0, .ref ((Z.wa ad9).ad 500)]) (by rw [show (Z.wa ad9).ad 500 = Z.ad 500 from hE1.2]) ?_
    refine v_last (C.wa ad9) dL_fount_8 ?_
    refine v_goto (tgt := 18) (C.wa ad9) dL_fount_9 (by decide) ?_
    refine v_iconst (v := 0) (C.wa ad9) dL_fount_18 (by decide) ?_
    exact ret ad9 _ _ _ _ dL_fount_19 ⟨by rw [hcd]; rfl, hE1, g1, hR1, hF1, by rw [if_pos hcd, han]⟩
theorem le_buy (f k m : Int32) (s : MG) : cdBuy s f k m ≤ 3 := by
  unfold cdBuy
  repeat' split
  all_goals decide
set_option maxRecDepth 100000 in
theorem w_buy (l : Launch) (hl9 : l.stackTraces = false) (Z : Zc) (f k m : Int32) (N : Nat) (s g : MG) (hI : LI N s) (hR : Rl s g) : MW l yL_buy cL_buy 6 [(0, 12, 15, 21), (0, 12, 19, 13), (0, 12, 23, 15)] (rmz 9 290 1 6) Z [.ref (Z.ad 30), .int f, .int k, .int m, .ref (Z.ad 500)] g (WQ Z g (cdBuy s f k m) (s 6 (atO f k) + m) (stBuy s f k m)) := by
  refine ent_w (lo := [some (.ref (Z.ad 30)), some (.int f), some (.int k), some (.int m), some (.ref (Z.ad 500)), none]) (by decide) rfl (by simp [lg_sl, Value.category]) rfl (fun P hl C hS hT ret => ?_)
  refine v_aload C dL_buy_0 rfl ?_
  refine v_iconst (v := 0) C dL_buy_2 (by decide) ?_
  refine v_aload_n C dL_buy_3 rfl rfl ?_
  refine v_iload_n C dL_buy_4 rfl rfl ?_
  refine v_iload_n C dL_buy_5 rfl rfl ?_
  refine v_iload_n C dL_buy_6 rfl rfl ?_
  refine v_callX (n := 3) (as := [.int f, .int k, .int m]) C hS (x_buy _ (by rw [hl]; exact hl9) Z f k m s g hI.1 hI.2.1 hR) (gv (tg2 216 rfl rfl) (tg2 217 rfl rfl) (tg2 218 rfl rfl) (tg1 1 rfl rfl) (tg2 219 rfl rfl)) (by decide +kernel) ⟨Nat.le_of_ble_eq_true rfl, Nat.le_of_ble_eq_true rfl⟩ rfl cx_T rfl rfl (Nat.le_of_ble_eq_true rfl) dL_buy_7 ⟨Nat.le_of_ble_eq_true rfl, Nat.le_of_ble_eq_true rfl⟩ (fun E q g1 hp => ?_) (fun r g1 hp => ?_)
  · obtain ⟨hne, hE, hR1, hF1⟩ := hp
    have hle := le_buy f k m s
    by_cases hc1 : cdBuy s f k m = 1
    · subst hE
      rw [hc1]
      show VT P _ _ _ _ _ (exC 0) q g1 _ _
      refine v_catch C hS hT 0 (k := 0) rfl ⟨by decide, by decide⟩ (by decide) (tg2 215 rfl rfl) (List.mem_of_getElem? (i := 3) rfl) (fun j hj => absurd hj (Nat.not_lt_zero j)) ?_
      refine v_astore (lo' := [some (.ref (Z.ad 30)), some (.int f), some (.int k), some (.int m), some (.ref (Z.ad 500)), some (.ref q)]) C dL_buy_15 (Nat.le_of_ble_eq_true rfl) rfl rfl ?_
      refine v_iconst (v := 1) C dL_buy_17 (by decide) ?_
      exact ret _ _ _ _ _ dL_buy_18 ⟨by rw [hc1]; rfl, adE.rf, g1, hR1, hF1, by rw [if_neg hne]⟩
    · by_cases hc2 : cdBuy s f k m = 2
      · subst hE
        rw [hc2]
        show VT P _ _ _ _ _ (exC 1) q g1 _ _
        refine v_catch C hS hT 1 (k := 1) rfl ⟨by decide, by decide⟩ (by decide) (tg2 89 rfl rfl) (List.mem_of_getElem? (i := 4) rfl) (fun j hj => by obtain rfl := (show j = 0 by omega); exact ⟨_, 0, rfl, by decide, (tg2 215 rfl rfl), List.mem_of_getElem? (i := 1) rfl⟩) ?_
        refine v_astore (lo' := [some (.ref (Z.ad 30)), some (.int f), some (.int k), some (.int m), some (.ref (Z.ad 500)), some (.ref q)]) C dL_buy_19 (Nat.le_of_ble_eq_true rfl) rfl rfl ?_
        refine v_iconst (v := 2) C dL_buy_21 (by decide) ?_
        exact ret _ _ _ _ _ dL_buy_22 ⟨by rw [hc2]; rfl, adE.rf, g1, hR1, hF1, by rw [if_neg hne]⟩
      · have hc3 : cdBuy s f k m = 3 := by omega
        subst hE
        rw [hc3]
        show VT P _ _ _ _ _ (exC 2) q g1 _ _
        refine v_catch C hS hT 2 (k := 2) rfl ⟨by decide, by decide⟩ (by decide) (tg2 90 rfl rfl) (List.mem_of_getElem? (i := 5) rfl) (fun j hj => by obtain rfl | rfl := (show j = 0 ∨ j = 1 by omega); (· exact ⟨_, 0, rfl, by decide, (tg2 215 rfl rfl), List.mem_of_getElem? (i := 3) rfl⟩); (· exact ⟨_, 1, rfl, by decide, (tg2 89 rfl rfl), List.mem_of_getElem? (i := 2) rfl⟩)) ?_
        refine v_astore (lo' := [some (.ref (Z.ad 30)), some (.int f), some (.int k), some (.int m), some (.ref (Z.ad 500)), some (.ref q)]) C dL_buy_23 (Nat.le_of_ble_eq_true rfl) rfl rfl ?_
        refine v_iconst (v := 3) C dL_buy_25 (by decide) ?_
        exact ret _ _ _ _ _ dL_buy_26 ⟨by rw [hc3]; rfl, adE.rf, g1, hR1, hF1, by rw [if_neg hne]⟩
  · obtain ⟨hcd, han, hR1, hF1⟩ := hp
    refine v_i2l C dL_buy_10 ?_
    refine v_last C dL_buy_11 ?_
    refine v_goto (tgt := 27) C dL_buy_12 (by decide) ?_
    refine v_iconst (v := 0) C dL_buy_27 (by decide) ?_
    exact ret Z.ad _ _ _ _ dL_buy_28 ⟨by rw [hcd]; rfl, adE.rf, g1, hR1, hF1, by rw [if_pos hcd, han]⟩
theorem le_buyAll (f m : Int32) (s : MG) : cdBuyAll s f m ≤ 2 := by
  unfold cdBuyAll
  repeat' split
  all_goals decide
set_option maxRecDepth 100000 in
theorem w_buyAll (l : Launch) (hl9 : l.stackTraces = false) (Z : Zc) (f m : Int32) (N : Nat) (s g : MG) (hI : LI N s) (hR : Rl s g) : MW l yL_buyAll cL_buyAll 5 [(0, 10, 13, 21), (0, 10, 17, 13)] (rmz 9 290 1 6) Z [.ref (Z.ad 30), .int f, .int m, .ref (Z.ad 500)] g (WQ Z g (cdBuyAll s f m) (anBuyAll s f m) (stBuyAll s f m)) := by
  refine ent_w (lo := [some (.ref (Z.ad 30)), some (.int f), some (.int m), some (.ref (Z.ad 500)), none]) (by decide) rfl (by simp [lg_sl, Value.category]) rfl (fun P hl C hS hT ret => ?_)
  refine v_aload_n C dL_buyAll_0 rfl rfl ?_
  refine v_iconst (v := 0) C dL_buyAll_1 (by decide) ?_
  refine v_aload_n C dL_buyAll_2 rfl rfl ?_
  refine v_iload_n C dL_buyAll_3 rfl rfl ?_
  refine v_iload_n C dL_buyAll_4 rfl rfl ?_
  refine v_callX (n := 2) (as := [.int f, .int m]) C hS (x_buyAll _ (by rw [hl]; exact hl9) Z f m s g hI.1 hI.2.1 hR) (gv (tg2 229 rfl rfl) (tg2 230 rfl rfl) (tg2 231 rfl rfl) (tg1 1 rfl rfl) (tg2 232 rfl rfl)) (by decide +kernel) ⟨Nat.le_of_ble_eq_true rfl, Nat.le_of_ble_eq_true rfl⟩ rfl cx_T rfl rfl (Nat.le_of_ble_eq_true rfl) dL_buyAll_5 ⟨Nat.le_of_ble_eq_true rfl, Nat.le_of_ble_eq_true rfl⟩ (fun E q g1 hp => ?_) (fun r g1 hp => ?_)
  · obtain ⟨hne, hE, hR1, hF1⟩ := hp
    have hle := le_buyAll f m s
    by_cases hc1 : cdBuyAll s f m = 1
    · subst hE
      rw [hc1]
      show VT P _ _ _ _ _ (exC 0) q g1 _ _
      refine v_catch C hS hT 0 (k := 0) rfl ⟨by decide, by decide⟩ (by decide) (tg2 215 rfl rfl) (List.mem_of_getElem? (i := 3) rfl) (fun j hj => absurd hj (Nat.not_lt_zero j)) ?_
      refine v_astore (lo' := [some (.ref (Z.ad 30)), some (.int f), some (.int m), some (.ref (Z.ad 500)), some (.ref q)]) C dL_buyAll_13 (Nat.le_of_ble_eq_true rfl) rfl rfl ?_
      refine v_iconst (v := 1) C dL_buyAll_15 (by decide) ?_
      exact ret _ _ _ _ _ dL_buyAll_16 ⟨by rw [hc1]; rfl, adE.rf, g1, hR1, hF1, by rw [if_neg hne]⟩
    · have hc2 : cdBuyAll s f m = 2 := by omega
      subst hE
      rw [hc2]
      show VT P _ _ _ _ _ (exC 1) q g1 _ _
      refine v_catch C hS hT 1 (k := 1) rfl ⟨by decide, by decide⟩ (by decide) (tg2 89 rfl rfl) (List.mem_of_getElem? (i := 4) rfl) (fun j hj => by obtain rfl := (show j = 0 by omega); exact ⟨_, 0, rfl, by decide, (tg2 215 rfl rfl), List.mem_of_getElem? (i := 1) rfl⟩) ?_
      refine v_astore (lo' := [some (.ref (Z.ad 30)), some (.int f), some (.int m), some (.ref (Z.ad 500)), some (.ref q)]) C dL_buyAll_17 (Nat.le_of_ble_eq_true rfl) rfl rfl ?_
      refine v_iconst (v := 2) C dL_buyAll_19 (by decide) ?_
      exact ret _ _ _ _ _ dL_buyAll_20 ⟨by rw [hc2]; rfl, adE.rf, g1, hR1, hF1, by rw [if_neg hne]⟩
  · obtain ⟨hcd, han, hR1, hF1⟩ := hp
    refine v_i2l C dL_buyAll_8 ?_
    refine v_last C dL_buyAll_9 ?_
    refine v_goto (tgt := 21) C dL_buyAll_10 (by decide) ?_
    refine v_iconst (v := 0) C dL_buyAll_21 (by decide) ?_
    exact ret Z.ad _ _ _ _ dL_buyAll_22 ⟨by rw [hcd]; rfl, adE.rf, g1, hR1, hF1, by rw [if_pos hcd, han]⟩
theorem le_setOther (k o : Int32) (s : MG) : cdSetOther k o ≤ 2 := by
  unfold cdSetOther
  repeat' split
  all_goals decide
set_option maxRecDepth 100000 in
theorem w_setOther (l : Launch) (hl9 : l.stackTraces = false) (Z : Zc) (k o : Int32) (N : Nat) (s g : MG) (hI : LI N s) (hR : Rl s g) : MW l yL_setOther cL_setOther 5 [(0, 10, 13, 21), (0, 10, 17, 13)] (rmz 9 290 1 6) Z [.ref (Z.ad 30), .int k, .int o, .ref (Z.ad 500)] g (WQ Z g (cdSetOther k o) (s 9 (iz k)) (stSetOther s k o)) := by
  refine ent_w (lo := [some (.ref (Z.ad 30)), some (.int k), some (.int o), some (.ref (Z.ad 500)), none]) (by decide) rfl (by simp [lg_sl, Value.category]) rfl (fun P hl C hS hT ret => ?_)
  refine v_aload_n C dL_setOther_0 rfl rfl ?_
  refine v_iconst (v := 0) C dL_setOther_1 (by decide) ?_
  refine v_aload_n C dL_setOther_2 rfl rfl ?_
  refine v_iload_n C dL_setOther_3 rfl rfl ?_
  refine v_iload_n C dL_setOther_4 rfl rfl ?_
  refine v_callX (n := 2) (as := [.int k, .int o]) C hS (x_setOther _ (by rw [hl]; exact hl9) Z k o s g hI.1 hR) (gv (tg2 238 rfl rfl) (tg2 239 rfl rfl) (tg3 0 rfl rfl) (tg1 1 rfl rfl) (tg3 1 rfl rfl)) (by decide +kernel) ⟨Nat.le_of_ble_eq_true rfl, Nat.le_of_ble_eq_true rfl⟩ rfl cx_T rfl rfl (Nat.le_of_ble_eq_true rfl) dL_setOther_5 ⟨Nat.le_of_ble_eq_true rfl, Nat.le_of_ble_eq_true rfl⟩ (fun E q g1 hp => ?_) (fun r g1 hp => ?_)
  · obtain ⟨hne, hE, hR1, hF1⟩ := hp
    have hle := le_setOther k o s
    by_cases hc1 : cdSetOther k o = 1
    · subst hE
      rw [hc1]
      show VT P _ _ _ _ _ (exC 0) q g1 _ _
      refine v_catch C hS hT 0 (k := 0) rfl ⟨by decide, by decide⟩ (by decide) (tg2 215 rfl rfl) (List.mem_of_getElem? (i := 3) rfl) (fun j hj => absurd hj (Nat.not_lt_zero j)) ?_
      refine v_astore (lo' := [some (.ref (Z.ad 30)), some (.int k), some (.int o), some (.ref (Z.ad 500)), some (.ref q)]) C dL_setOther_13 (Nat.le_of_ble_eq_true rfl) rfl rfl ?_
      refine v_iconst (v := 1) C dL_setOther_15 (by decide) ?_
      exact ret _ _ _ _ _ dL_setOther_16 ⟨by rw [hc1]; rfl, adE.rf, g1, hR1, hF1, by rw [if_neg hne]⟩
    · have hc2 : cdSetOther k o = 2 := by omega
      subst hE
      rw [hc2]
      show VT P _ _ _ _ _ (exC 1) q g1 _ _
      refine v_catch C hS hT 1 (k := 1) rfl ⟨by decide, by decide⟩ (by decide) (tg2 89 rfl rfl) (List.mem_of_getElem? (i := 4) rfl) (fun j hj => by obtain rfl := (show j = 0 by omega); exact ⟨_, 0, rfl, by decide, (tg2 215 rfl rfl), List.mem_of_getElem? (i := 1) rfl⟩) ?_
      refine v_astore (lo' := [some (.ref (Z.ad 30)), some (.int k), some (.int o), some (.ref (Z.ad 500)), some (.ref q)]) C dL_setOther_17 (Nat.le_of_ble_eq_true rfl) rfl rfl ?_
      refine v_iconst (v := 2) C dL_setOther_19 (by decide) ?_
      exact ret _ _ _ _ _ dL_setOther_20 ⟨by rw [hc2]; rfl, adE.rf, g1, hR1, hF1, by rw [if_neg hne]⟩
  · obtain ⟨hcd, han, hR1, hF1⟩ := hp
    refine v_i2l C dL_setOther_8 ?_
    refine v_last C dL_setOther_9 ?_
    refine v_goto (tgt := 21) C dL_setOther_10 (by decide) ?_
    refine v_iconst (v := 0) C dL_setOther_21 (by decide) ?_
    exact ret Z.ad _ _ _ _ dL_setOther_22 ⟨by rw [hcd]; rfl, adE.rf, g1, hR1, hF1, by rw [if_pos hcd, han]⟩
theorem le_setTown (t py sc : Int32) (s : MG) : cdSetTown t py sc ≤ 2 := by
  unfold cdSetTown
  repeat' split
  all_goals decide
set_option maxRecDepth 100000 in
theorem w_setTown (l : Launch) (hl9 : l.stackTraces = false) (Z : Zc) (t py sc : Int32) (N : Nat) (s g : MG) (hI : LI N s) (hR : Rl s g) : MW l yL_setTown cL_setTown 6 [(0, 12, 15, 21), (0, 12, 19, 13)] (rmz 9 290 1 6) Z [.ref (Z.ad 30), .int t, .int py, .int sc, .ref (Z.ad 500)] g (WQ Z g (cdSetTown t py sc) (100 * s 10 (iz t) + s 11 (iz t)) (stSetTown s t py sc)) := by
  refine ent_w (lo := [some (.ref (Z.ad 30)), some (.int t), some (.int py), some (.int sc), some (.ref (Z.ad 500)), none]) (by decide) rfl (by simp [lg_sl, Value.category]) rfl (fun P hl C hS hT ret => ?_)
  refine v_aload C dL_setTown_0 rfl ?_
  refine v_iconst (v := 0) C dL_setTown_2 (by decide) ?_
  refine v_aload_n C dL_setTown_3 rfl rfl ?_
  refine v_iload_n C dL_setTown_4 rfl rfl ?_
  refine v_iload_n C dL_setTown_5 rfl rfl ?_
  refine v_iload_n C dL_setTown_6 rfl rfl ?_
  refine v_callX (n := 3) (as := [.int t, .int py, .int sc]) C hS (x_setTown _ (by rw [hl]; exact hl9) Z t py sc s g hI.1 hI.2.1 hR) (gv (tg3 7 rfl rfl) (tg3 8 rfl rfl) (tg3 9 rfl rfl) (tg1 1 rfl rfl) (tg3 10 rfl rfl)) (by decide +kernel) ⟨Nat.le_of_ble_eq_true rfl, Nat.le_of_ble_eq_true rfl⟩ rfl cx_T rfl rfl (Nat.le_of_ble_eq_true rfl) dL_setTown_7 ⟨Nat.le_of_ble_eq_true rfl, Nat.le_of_ble_eq_true rfl⟩ (fun E q g1 hp => ?_) (fun r g1 hp => ?_)
  · obtain ⟨hne, hE, hR1, hF1⟩ := hp
    have hle := le_setTown t py sc s
    by_cases hc1 : cdSetTown t py sc = 1
    · subst hE
      rw [hc1]
      show VT P _ _ _ _ _ (exC 0) q g1 _ _
      refine v_catch C hS hT 0 (k := 0) rfl ⟨by decide, by decide⟩ (by decide) (tg2 215 rfl rfl) (List.mem_of_getElem? (i := 3) rfl) (fun j hj => absurd hj (Nat.not_lt_zero j)) ?_
      refine v_astore (lo' := [some (.ref (Z.ad 30)), some (.int t), some (.int py), some (.int sc), some (.ref (Z.ad 500)), some (.ref q)]) C dL_setTown_15 (Nat.le_of_ble_eq_true rfl) rfl rfl ?_
      refine v_iconst (v := 1) C dL_setTown_17 (by decide) ?_
      exact ret _ _ _ _ _ dL_setTown_18 ⟨by rw [hc1]; rfl, adE.rf, g1, hR1, hF1, by rw [if_neg hne]⟩
    · have hc2 : cdSetTown t py sc = 2 := by omega
      subst hE
      rw [hc2]
      show VT P _ _ _ _ _ (exC 1) q g1 _ _
      refine v_catch C hS hT 1 (k := 1) rfl ⟨by decide, by decide⟩ (by decide) (tg2 89 rfl rfl) (List.mem_of_getElem? (i := 4) rfl) (fun j hj => by obtain rfl := (show j = 0 by omega); exact ⟨_, 0, rfl, by decide, (tg2 215 rfl rfl), List.mem_of_getElem? (i := 1) rfl⟩) ?_
      refine v_astore (lo' := [some (.ref (Z.ad 30)), some (.int t), some (.int py), some (.int sc), some (.ref (Z.ad 500)), some (.ref q)]) C dL_setTown_19 (Nat.le_of_ble_eq_true rfl) rfl rfl ?_
      refine v_iconst (v := 2) C dL_setTown_21 (by decide) ?_
      exact ret _ _ _ _ _ dL_setTown_22 ⟨by rw [hc2]; rfl, adE.rf, g1, hR1, hF1, by rw [if_neg hne]⟩
  · obtain ⟨hcd, han, hR1, hF1⟩ := hp
    refine v_i2l C dL_setTown_10 ?_
    refine v_last C dL_setTown_11 ?_
    refine v_goto (tgt := 23) C dL_setTown_12 (by decide) ?_
    refine v_iconst (v := 0) C dL_setTown_23 (by decide) ?_
    exact ret Z.ad _ _ _ _ dL_setTown_24 ⟨by rw [hcd]; rfl, adE.rf, g1, hR1, hF1, by rw [if_pos hcd, han]⟩
theorem le_poster (t h : Int32) (s : MG) : cdPoster s t h ≤ 3 := by
  unfold cdPoster
  repeat' split
  all_goals decide
set_option maxRecDepth 100000 in
theorem w_poster (l : Launch) (hl9 : l.stackTraces = false) (Z : Zc) (t h : Int32) (N : Nat) (s g : MG) (hI : LI N s) (hR : Rl s g) : MW l yL_poster cL_poster 5 [(0, 10, 13, 21), (0, 10, 17, 13), (0, 10, 21, 15)] (rmz 9 290 6 60) Z [.ref (Z.ad 30), .int t, .int h, .ref (Z.ad 500)] g (WQ Z g (cdPoster s t h) (nI (npO s)) (stPoster s t h)) := by
  refine ent_w (lo := [some (.ref (Z.ad 30)), some (.int t), some (.int h), some (.ref (Z.ad 500)), none]) (by decide) rfl (by simp [lg_sl, Value.category]) rfl (fun P hl C hS hT ret => ?_)
  refine v_aload_n C dL_poster_0 rfl rfl ?_
  refine v_iconst (v := 0) C dL_poster_1 (by decide) ?_
  refine v_aload_n C dL_poster_2 rfl rfl ?_
  refine v_iload_n C dL_poster_3 rfl rfl ?_
  refine v_iload_n C dL_poster_4 rfl rfl ?_
  refine v_callM (n := 2) (as := [.int t, .int h]) C hS (x_poster _ (by rw [hl]; exact hl9) Z t h s g hI.1 hI.2.2.2.1 hR) (gv (tg3 19 rfl rfl) (tg3 20 rfl rfl) (tg3 21 rfl rfl) (tg1 1 rfl rfl) (tg3 22 rfl rfl)) (by decide +kernel) ⟨Nat.le_of_ble_eq_true rfl, Nat.le_of_ble_eq_true rfl⟩ rfl cx_T rfl rfl (Nat.le_of_ble_eq_true rfl) dL_poster_5 ⟨Nat.le_of_ble_eq_true rfl, Nat.le_of_ble_eq_true rfl⟩ (fun E q g1 hp => ?_) (fun r ad9 g1 hp => ?_)
  · obtain ⟨hne, hE, hR1, hF1⟩ := hp
    have hle := le_poster t h s
    by_cases hc1 : cdPoster s t h = 1
    · subst hE
      rw [hc1]
      show VT P _ _ _ _ _ (exC 0) q g1 _ _
      refine v_catch C hS hT 0 (k := 0) rfl ⟨by decide, by decide⟩ (by decide) (tg2 215 rfl rfl) (List.mem_of_getElem? (i := 3) rfl) (fun j hj => absurd hj (Nat.not_lt_zero j)) ?_
      refine v_astore (lo' := [some (.ref (Z.ad 30)), some (.int t), some (.int h), some (.ref (Z.ad 500)), some (.ref q)]) C dL_poster_13 (Nat.le_of_ble_eq_true rfl) rfl rfl ?_
      refine v_iconst (v := 1) C dL_poster_15 (by decide) ?_
      exact ret _ _ _ _ _ dL_poster_16 ⟨by rw [hc1]; rfl, adE.rf, g1, hR1, hF1, by rw [if_neg hne]⟩
    · by_cases hc2 : cdPoster s t h = 2
      · subst hE
        rw [hc2]
        show VT P _ _ _ _ _ (exC 1) q g1 _ _
        refine v_catch C hS hT 1 (k := 1) rfl ⟨by decide, by decide⟩ (by decide) (tg2 89 rfl rfl) (List.mem_of_getElem? (i := 4) rfl) (fun j hj => by obtain rfl := (show j = 0 by omega); exact ⟨_, 0, rfl, by decide, (tg2 215 rfl rfl), List.mem_of_getElem? (i := 1) rfl⟩) ?_
        refine v_astore (lo' := [some (.ref (Z.ad 30)), some (.int t), some (.int h), some (.ref (Z.ad 500)), some (.ref q)]) C dL_poster_17 (Nat.le_of_ble_eq_true rfl) rfl rfl ?_
        refine v_iconst (v := 2) C dL_poster_19 (by decide) ?_
        exact ret _ _ _ _ _ dL_poster_20 ⟨by rw [hc2]; rfl, adE.rf, g1, hR1, hF1, by rw [if_neg hne]⟩
      · have hc3 : cdPoster s t h = 3 := by omega
        subst hE
        rw [hc3]
        show VT P _ _ _ _ _ (exC 2) q g1 _ _
        refine v_catch C hS hT 2 (k := 2) rfl ⟨by decide, by decide⟩ (by decide) (tg2 90 rfl rfl) (List.mem_of_getElem? (i := 5) rfl) (fun j hj => by obtain rfl | rfl := (show j = 0 ∨ j = 1 by omega); (· exact ⟨_, 0, rfl, by decide, (tg2 215 rfl rfl), List.mem_of_getElem? (i := 3) rfl⟩); (· exact ⟨_, 1, rfl, by decide, (tg2 89 rfl rfl), List.mem_of_getElem? (i := 2) rfl⟩)) ?_
        refine v_astore (lo' := [some (.ref (Z.ad 30)), some (.int t), some (.int h), some (.ref (Z.ad 500)), some (.ref q)]) C dL_poster_21 (Nat.le_of_ble_eq_true rfl) rfl rfl ?_
        refine v_iconst (v := 3) C dL_poster_23 (by decide) ?_
        exact ret _ _ _ _ _ dL_poster_24 ⟨by rw [hc3]; rfl, adE.rf, g1, hR1, hF1, by rw [if_neg hne]⟩
  · obtain ⟨hcd, han, hR1, hF1, hE1⟩ := hp
    refine v_i2l (C.wa ad9) dL_poster_8 ?_
    refine v_st (st' := [.long r.toInt64, .int 0, .ref ((Z.wa ad9).ad 500)]) (by rw [show (Z.wa ad9).ad 500 = Z.ad 500 from hE1.2]) ?_
    refine v_last (C.wa ad9) dL_poster_9 ?_
    refine v_goto (tgt := 25) (C.wa ad9) dL_poster_10 (by decide) ?_
    refine v_iconst (v := 0) (C.wa ad9) dL_poster_25 (by decide) ?_
    exact ret ad9 _ _ _ _ dL_poster_26 ⟨by rw [hcd]; rfl, hE1, g1, hR1, hF1, by rw [if_pos hcd, han]⟩
theorem le_line (p v : Int32) (s : MG) : cdLine s p v ≤ 3 := by
  unfold cdLine
  repeat' split
  all_goals decide
set_option maxRecDepth 100000 in
theorem w_line (l : Launch) (hl9 : l.stackTraces = false) (Z : Zc) (p v : Int32) (N : Nat) (s g : MG) (hI : LI N s) (hR : Rl s g) : MW l yL_line cL_line 5 [(0, 10, 13, 21), (0, 10, 17, 13), (0, 10, 21, 15)] (rmz 9 290 6 60) Z [.ref (Z.ad 30), .int p, .int v, .ref (Z.ad 500)] g (WQ Z g (cdLine s p v) (nI (nlO s (iz p))) (stLine s p v)) := by
  refine ent_w (lo := [some (.ref (Z.ad 30)), some (.int p), some (.int v), some (.ref (Z.ad 500)), none]) (by decide) rfl (by simp [lg_sl, Value.category]) rfl (fun P hl C hS hT ret => ?_)
  refine v_aload_n C dL_line_0 rfl rfl ?_
  refine v_iconst (v := 0) C dL_line_1 (by decide) ?_
  refine v_aload_n C dL_line_2 rfl rfl ?_
  refine v_iload_n C dL_line_3 rfl rfl ?_
  refine v_iload_n C dL_line_4 rfl rfl ?_
  refine v_callM (n := 2) (as := [.int p, .int v]) C hS (x_line _ (by rw [hl]; exact hl9) Z p v s g hI.1 hR) (gv (tg3 55 rfl rfl) (tg3 56 rfl rfl) (tg3 57 rfl rfl) (tg1 1 rfl rfl) (tg3 58 rfl rfl)) (by decide +kernel) ⟨Nat.le_of_ble_eq_true rfl, Nat.le_of_ble_eq_true rfl⟩ rfl cx_T rfl rfl (Nat.le_of_ble_eq_true rfl) dL_line_5 ⟨Nat.le_of_ble_eq_true rfl, Nat.le_of_ble_eq_true rfl⟩ (fun E q g1 hp => ?_) (fun r ad9 g1 hp => ?_)
  · obtain ⟨hne, hE, hR1, hF1⟩ := hp
    have hle := le_line p v s
    by_cases hc1 : cdLine s p v = 1
    · subst hE
      rw [hc1]
      show VT P _ _ _ _ _ (exC 0) q g1 _ _
      refine v_catch C hS hT 0 (k := 0) rfl ⟨by decide, by decide⟩ (by decide) (tg2 215 rfl rfl) (List.mem_of_getElem? (i := 3) rfl) (fun j hj => absurd hj (Nat.not_lt_zero j)) ?_
      refine v_astore (lo' := [some (.ref (Z.ad 30)), some (.int p), some (.int v), some (.ref (Z.ad 500)), some (.ref q)]) C dL_line_13 (Nat.le_of_ble_eq_true rfl) rfl rfl ?_
      refine v_iconst (v := 1) C dL_line_15 (by decide) ?_
      exact ret _ _ _ _ _ dL_line_16 ⟨by rw [hc1]; rfl, adE.rf, g1, hR1, hF1, by rw [if_neg hne]⟩
    · by_cases hc2 : cdLine s p v = 2
      · subst hE
        rw [hc2]
        show VT P _ _ _ _ _ (exC 1) q g1 _ _
        refine v_catch C hS hT 1 (k := 1) rfl ⟨by decide, by decide⟩ (by decide) (tg2 89 rfl rfl) (List.mem_of_getElem? (i := 4) rfl) (fun j hj => by obtain rfl := (show j = 0 by omega); exact ⟨_, 0, rfl, by decide, (tg2 215 rfl rfl), List.mem_of_getElem? (i := 1) rfl⟩) ?_
        refine v_astore (lo' := [some (.ref (Z.ad 30)), some (.int p), some (.int v), some (.ref (Z.ad 500)), some (.ref q)]) C dL_line_17 (Nat.le_of_ble_eq_true rfl) rfl rfl ?_
        refine v_iconst (v := 2) C dL_line_19 (by decide) ?_
        exact ret _ _ _ _ _ dL_line_20 ⟨by rw [hc2]; rfl, adE.rf, g1, hR1, hF1, by rw [if_neg hne]⟩
      · have hc3 : cdLine s p v = 3 := by omega
        subst hE
        rw [hc3]
        show VT P _ _ _ _ _ (exC 2) q g1 _ _
        refine v_catch C hS hT 2 (k := 2) rfl ⟨by decide, by decide⟩ (by decide) (tg2 90 rfl rfl) (List.mem_of_getElem? (i := 5) rfl) (fun j hj => by obtain rfl | rfl := (show j = 0 ∨ j = 1 by omega); (· exact ⟨_, 0, rfl, by decide, (tg2 215 rfl rfl), List.mem_of_getElem? (i := 3) rfl⟩); (· exact ⟨_, 1, rfl, by decide, (tg2 89 rfl rfl), List.mem_of_getElem? (i := 2) rfl⟩)) ?_
        refine v_astore (lo' := [some (.ref (Z.ad 30)), some (.int p), some (.int v), some (.ref (Z.ad 500)), some (.ref q)]) C dL_line_21 (Nat.le_of_ble_eq_true rfl) rfl rfl ?_
        refine v_iconst (v := 3) C dL_line_23 (by decide) ?_
        exact ret _ _ _ _ _ dL_line_24 ⟨by rw [hc3]; rfl, adE.rf, g1, hR1, hF1, by rw [if_neg hne]⟩
  · obtain ⟨hcd, han, hR1, hF1, hE1⟩ := hp
    refine v_i2l (C.wa ad9) dL_line_8 ?_
    refine v_st (st' := [.long r.toInt64, .int 0, .ref ((Z.wa ad9).ad 500)]) (by rw [show (Z.wa ad9).ad 500 = Z.ad 500 from hE1.2]) ?_
    refine v_last (C.wa ad9) dL_line_9 ?_
    refine v_goto (tgt := 25) (C.wa ad9) dL_line_10 (by decide) ?_
    refine v_iconst (v := 0) (C.wa ad9) dL_line_25 (by decide) ?_
    exact ret ad9 _ _ _ _ dL_line_26 ⟨by rw [hcd]; rfl, hE1, g1, hR1, hF1, by rw [if_pos hcd, han]⟩
theorem le_set (p : Int32) (s : MG) : cdSet s p ≤ 2 := by
  unfold cdSet
  repeat' split
  all_goals decide
set_option maxRecDepth 100000 in
theorem w_set (l : Launch) (hl9 : l.stackTraces = false) (Z : Zc) (p : Int32) (N : Nat) (s g : MG) (hI : LI N s) (hR : Rl s g) : MW l yL_set cL_set 4 [(0, 9, 12, 21), (0, 9, 15, 15)] (rmz 9 290 1 6) Z [.ref (Z.ad 30), .int p, .ref (Z.ad 500)] g (WQ Z g (cdSet s p) (wdF (plO s (iz p))) (stSet s p)) := by
  refine ent_w (lo := [some (.ref (Z.ad 30)), some (.int p), some (.ref (Z.ad 500)), none]) (by decide) rfl (by simp [lg_sl, Value.category]) rfl (fun P hl C hS hT ret => ?_)
  refine v_aload_n C dL_set_0 rfl rfl ?_
  refine v_iconst (v := 0) C dL_set_1 (by decide) ?_
  refine v_aload_n C dL_set_2 rfl rfl ?_
  refine v_iload_n C dL_set_3 rfl rfl ?_
  refine v_callX (n := 1) (as := [.int p]) C hS (x_set _ (by rw [hl]; exact hl9) Z p s g hI.1 N hI.2.2.2.2 hR) (gv (tg3 99 rfl rfl) (tg3 100 rfl rfl) (tg3 101 rfl rfl) (tg1 1 rfl rfl) (tg3 102 rfl rfl)) (by decide +kernel) ⟨Nat.le_of_ble_eq_true rfl, Nat.le_of_ble_eq_true rfl⟩ rfl cx_T rfl rfl (Nat.le_of_ble_eq_true rfl) dL_set_4 ⟨Nat.le_of_ble_eq_true rfl, Nat.le_of_ble_eq_true rfl⟩ (fun E q g1 hp => ?_) (fun r g1 hp => ?_)
  · obtain ⟨hne, hE, hR1, hF1⟩ := hp
    have hle := le_set p s
    by_cases hc1 : cdSet s p = 1
    · subst hE
      rw [hc1]
      show VT P _ _ _ _ _ (exC 0) q g1 _ _
      refine v_catch C hS hT 0 (k := 0) rfl ⟨by decide, by decide⟩ (by decide) (tg2 215 rfl rfl) (List.mem_of_getElem? (i := 3) rfl) (fun j hj => absurd hj (Nat.not_lt_zero j)) ?_
      refine v_astore_n (lo' := [some (.ref (Z.ad 30)), some (.int p), some (.ref (Z.ad 500)), some (.ref q)]) C dL_set_12 rfl (Nat.le_of_ble_eq_true rfl) rfl rfl ?_
      refine v_iconst (v := 1) C dL_set_13 (by decide) ?_
      exact ret _ _ _ _ _ dL_set_14 ⟨by rw [hc1]; rfl, adE.rf, g1, hR1, hF1, by rw [if_neg hne]⟩
    · have hc2 : cdSet s p = 2 := by omega
      subst hE
      rw [hc2]
      show VT P _ _ _ _ _ (exC 2) q g1 _ _
      refine v_catch C hS hT 1 (k := 2) rfl ⟨by decide, by decide⟩ (by decide) (tg2 90 rfl rfl) (List.mem_of_getElem? (i := 5) rfl) (fun j hj => by obtain rfl := (show j = 0 by omega); exact ⟨_, 0, rfl, by decide, (tg2 215 rfl rfl), List.mem_of_getElem? (i := 3) rfl⟩) ?_
      refine v_astore_n (lo' := [some (.ref (Z.ad 30)), some (.int p), some (.ref (Z.ad 500)), some (.ref q)]) C dL_set_15 rfl (Nat.le_of_ble_eq_true rfl) rfl rfl ?_
      refine v_iconst (v := 2) C dL_set_16 (by decide) ?_
      exact ret _ _ _ _ _ dL_set_17 ⟨by rw [hc2]; rfl, adE.rf, g1, hR1, hF1, by rw [if_neg hne]⟩
  · obtain ⟨hcd, han, hR1, hF1⟩ := hp
    refine v_i2l C dL_set_7 ?_
    refine v_last C dL_set_8 ?_
    refine v_goto (tgt := 18) C dL_set_9 (by decide) ?_
    refine v_iconst (v := 0) C dL_set_18 (by decide) ?_
    exact ret Z.ad _ _ _ _ dL_set_19 ⟨by rw [hcd]; rfl, adE.rf, g1, hR1, hF1, by rw [if_pos hcd, han]⟩
theorem le_print (p c : Int32) (s : MG) : cdPrint s p c ≤ 3 := by
  unfold cdPrint
  repeat' split
  all_goals decide
set_option maxRecDepth 100000 in
theorem w_print (l : Launch) (hl9 : l.stackTraces = false) (Z : Zc) (p c : Int32) (N : Nat) (s g : MG) (hI : LI N s) (hR : Rl s g) : MW l yL_print cL_print 5 [(0, 10, 13, 21), (0, 10, 17, 13), (0, 10, 21, 15)] (rmz 9 290 1 6) Z [.ref (Z.ad 30), .int p, .int c, .ref (Z.ad 500)] g (WQ Z g (cdPrint s p c) (gtO s (iz p) c) (stPrint s p c)) := by
  refine ent_w (lo := [some (.ref (Z.ad 30)), some (.int p), some (.int c), some (.ref (Z.ad 500)), none]) (by decide) rfl (by simp [lg_sl, Value.category]) rfl (fun P hl C hS hT ret => ?_)
  refine v_aload_n C dL_print_0 rfl rfl ?_
  refine v_iconst (v := 0) C dL_print_1 (by decide) ?_
  refine v_aload_n C dL_print_2 rfl rfl ?_
  refine v_iload_n C dL_print_3 rfl rfl ?_
  refine v_iload_n C dL_print_4 rfl rfl ?_
  refine v_callX (n := 2) (as := [.int p, .int c]) C hS (x_print _ (by rw [hl]; exact hl9) Z p c s g hI.1 hI.2.1 hR) (gv (tg3 111 rfl rfl) (tg3 112 rfl rfl) (tg3 113 rfl rfl) (tg1 1 rfl rfl) (tg3 114 rfl rfl)) (by decide +kernel) ⟨Nat.le_of_ble_eq_true rfl, Nat.le_of_ble_eq_true rfl⟩ rfl cx_T rfl rfl (Nat.le_of_ble_eq_true rfl) dL_print_5 ⟨Nat.le_of_ble_eq_true rfl, Nat.le_of_ble_eq_true rfl⟩ (fun E q g1 hp => ?_) (fun r g1 hp => ?_)
  · obtain ⟨hne, hE, hR1, hF1⟩ := hp
    have hle := le_print p c s
    by_cases hc1 : cdPrint s p c = 1
    · subst hE
      rw [hc1]
      show VT P _ _ _ _ _ (exC 0) q g1 _ _
      refine v_catch C hS hT 0 (k := 0) rfl ⟨by decide, by decide⟩ (by decide) (tg2 215 rfl rfl) (List.mem_of_getElem? (i := 3) rfl) (fun j hj => absurd hj (Nat.not_lt_zero j)) ?_
      refine v_astore (lo' := [some (.ref (Z.ad 30)), some (.int p), some (.int c), some (.ref (Z.ad 500)), some (.ref q)]) C dL_print_13 (Nat.le_of_ble_eq_true rfl) rfl rfl ?_
      refine v_iconst (v := 1) C dL_print_15 (by decide) ?_
      exact ret _ _ _ _ _ dL_print_16 ⟨by rw [hc1]; rfl, adE.rf, g1, hR1, hF1, by rw [if_neg hne]⟩
    · by_cases hc2 : cdPrint s p c = 2
      · subst hE
        rw [hc2]
        show VT P _ _ _ _ _ (exC 1) q g1 _ _
        refine v_catch C hS hT 1 (k := 1) rfl ⟨by decide, by decide⟩ (by decide) (tg2 89 rfl rfl) (List.mem_of_getElem? (i := 4) rfl) (fun j hj => by obtain rfl := (show j = 0 by omega); exact ⟨_, 0, rfl, by decide, (tg2 215 rfl rfl), List.mem_of_getElem? (i := 1) rfl⟩) ?_
        refine v_astore (lo' := [some (.ref (Z.ad 30)), some (.int p), some (.int c), some (.ref (Z.ad 500)), some (.ref q)]) C dL_print_17 (Nat.le_of_ble_eq_true rfl) rfl rfl ?_
        refine v_iconst (v := 2) C dL_print_19 (by decide) ?_
        exact ret _ _ _ _ _ dL_print_20 ⟨by rw [hc2]; rfl, adE.rf, g1, hR1, hF1, by rw [if_neg hne]⟩
      · have hc3 : cdPrint s p c = 3 := by omega
        subst hE
        rw [hc3]
        show VT P _ _ _ _ _ (exC 2) q g1 _ _
        refine v_catch C hS hT 2 (k := 2) rfl ⟨by decide, by decide⟩ (by decide) (tg2 90 rfl rfl) (List.mem_of_getElem? (i := 5) rfl) (fun j hj => by obtain rfl | rfl := (show j = 0 ∨ j = 1 by omega); (· exact ⟨_, 0, rfl, by decide, (tg2 215 rfl rfl), List.mem_of_getElem? (i := 3) rfl⟩); (· exact ⟨_, 1, rfl, by decide, (tg2 89 rfl rfl), List.mem_of_getElem? (i := 2) rfl⟩)) ?_
        refine v_astore (lo' := [some (.ref (Z.ad 30)), some (.int p), some (.int c), some (.ref (Z.ad 500)), some (.ref q)]) C dL_print_21 (Nat.le_of_ble_eq_true rfl) rfl rfl ?_
        refine v_iconst (v := 3) C dL_print_23 (by decide) ?_
        exact ret _ _ _ _ _ dL_print_24 ⟨by rw [hc3]; rfl, adE.rf, g1, hR1, hF1, by rw [if_neg hne]⟩
  · obtain ⟨hcd, han, hR1, hF1⟩ := hp
    refine v_i2l C dL_print_8 ?_
    refine v_last C dL_print_9 ?_
    refine v_goto (tgt := 25) C dL_print_10 (by decide) ?_
    refine v_iconst (v := 0) C dL_print_25 (by decide) ?_
    exact ret Z.ad _ _ _ _ dL_print_26 ⟨by rw [hcd]; rfl, adE.rf, g1, hR1, hF1, by rw [if_pos hcd, han]⟩
theorem le_strike (p : Int32) (s : MG) : cdStrike s p ≤ 2 := by
  unfold cdStrike
  repeat' split
  all_goals decide
set_option maxRecDepth 100000 in
theorem w_strike (l : Launch) (hl9 : l.stackTraces = false) (Z : Zc) (p : Int32) (N : Nat) (s g : MG) (hI : LI N s) (hR : Rl s g) : MW l yL_strike cL_strike 4 [(0, 9, 12, 21), (0, 9, 15, 15)] (rmz 9 290 1 6) Z [.ref (Z.ad 30), .int p, .ref (Z.ad 500)] g (WQ Z g (cdStrike s p) (sumI (brO s (iz p)) 50) (stStrike s p)) := by
  refine ent_w (lo := [some (.ref (Z.ad 30)), some (.int p), some (.ref (Z.ad 500)), none]) (by decide) rfl (by simp [lg_sl, Value.category]) rfl (fun P hl C hS hT ret => ?_)
  refine v_aload_n C dL_strike_0 rfl rfl ?_
  refine v_iconst (v := 0) C dL_strike_1 (by decide) ?_
  refine v_aload_n C dL_strike_2 rfl rfl ?_
  refine v_iload_n C dL_strike_3 rfl rfl ?_
  refine v_callX (n := 1) (as := [.int p]) C hS (x_strike _ (by rw [hl]; exact hl9) Z p s g hI.1 hI.2.1 hI.2.2.1 hR) (gv (tg3 124 rfl rfl) (tg3 125 rfl rfl) (tg3 126 rfl rfl) (tg1 1 rfl rfl) (tg3 127 rfl rfl)) (by decide +kernel) ⟨Nat.le_of_ble_eq_true rfl, Nat.le_of_ble_eq_true rfl⟩ rfl cx_T rfl rfl (Nat.le_of_ble_eq_true rfl) dL_strike_4 ⟨Nat.le_of_ble_eq_true rfl, Nat.le_of_ble_eq_true rfl⟩ (fun E q g1 hp => ?_) (fun r g1 hp => ?_)
  · obtain ⟨hne, hE, hR1, hF1⟩ := hp
    have hle := le_strike p s
    by_cases hc1 : cdStrike s p = 1
    · subst hE
      rw [hc1]
      show VT P _ _ _ _ _ (exC 0) q g1 _ _
      refine v_catch C hS hT 0 (k := 0) rfl ⟨by decide, by decide⟩ (by decide) (tg2 215 rfl rfl) (List.mem_of_getElem? (i := 3) rfl) (fun j hj => absurd hj (Nat.not_lt_zero j)) ?_
      refine v_astore_n (lo' := [some (.ref (Z.ad 30)), some (.int p), some (.ref (Z.ad 500)), some (.ref q)]) C dL_strike_12 rfl (Nat.le_of_ble_eq_true rfl) rfl rfl ?_
      refine v_iconst (v := 1) C dL_strike_13 (by decide) ?_
      exact ret _ _ _ _ _ dL_strike_14 ⟨by rw [hc1]; rfl, adE.rf, g1, hR1, hF1, by rw [if_neg hne]⟩
    · have hc2 : cdStrike s p = 2 := by omega
      subst hE
      rw [hc2]
      show VT P _ _ _ _ _ (exC 2) q g1 _ _
      refine v_catch C hS hT 1 (k := 2) rfl ⟨by decide, by decide⟩ (by decide) (tg2 90 rfl rfl) (List.mem_of_getElem? (i := 5) rfl) (fun j hj => by obtain rfl := (show j = 0 by omega); exact ⟨_, 0, rfl, by decide, (tg2 215 rfl rfl), List.mem_of_getElem? (i := 3) rfl⟩) ?_
      refine v_astore_n (lo' := [some (.ref (Z.ad 30)), some (.int p), some (.ref (Z.ad 500)), some (.ref q)]) C dL_strike_15 rfl (Nat.le_of_ble_eq_true rfl) rfl rfl ?_
      refine v_iconst (v := 2) C dL_strike_16 (by decide) ?_
      exact ret _ _ _ _ _ dL_strike_17 ⟨by rw [hc2]; rfl, adE.rf, g1, hR1, hF1, by rw [if_neg hne]⟩
  · obtain ⟨hcd, han, hR1, hF1⟩ := hp
    refine v_i2l C dL_strike_7 ?_
    refine v_last C dL_strike_8 ?_
    refine v_goto (tgt := 18) C dL_strike_9 (by decide) ?_
    refine v_iconst (v := 0) C dL_strike_18 (by decide) ?_
    exact ret Z.ad _ _ _ _ dL_strike_19 ⟨by rw [hcd]; rfl, adE.rf, g1, hR1, hF1, by rw [if_pos hcd, han]⟩
theorem le_block (f k v : Int32) (s : MG) : cdBlock s f k v ≤ 1 := by
  unfold cdBlock
  repeat' split
  all_goals decide
set_option maxRecDepth 100000 in
theorem w_block (l : Launch) (hl9 : l.stackTraces = false) (Z : Zc) (f k v : Int32) (N : Nat) (s g : MG) (hI : LI N s) (hR : Rl s g) : MW l yL_block cL_block 6 [(0, 12, 15, 21)] (rmz 9 290 1 6) Z [.ref (Z.ad 30), .int f, .int k, .int v, .ref (Z.ad 500)] g (WQ Z g (cdBlock s f k v) (blkO s (atO f k) v) (s)) := by
  refine ent_w (lo := [some (.ref (Z.ad 30)), some (.int f), some (.int k), some (.int v), some (.ref (Z.ad 500)), none]) (by decide) rfl (by simp [lg_sl, Value.category]) rfl (fun P hl C hS hT ret => ?_)
  refine v_aload C dL_block_0 rfl ?_
  refine v_iconst (v := 0) C dL_block_2 (by decide) ?_
  refine v_aload_n C dL_block_3 rfl rfl ?_
  refine v_iload_n C dL_block_4 rfl rfl ?_
  refine v_iload_n C dL_block_5 rfl rfl ?_
  refine v_iload_n C dL_block_6 rfl rfl ?_
  refine v_callX (n := 3) (as := [.int f, .int k, .int v]) C hS (x_block _ (by rw [hl]; exact hl9) Z f k v s g hI.1 hI.2.1 hR) (gv (tg3 140 rfl rfl) (tg2 50 rfl rfl) (tg2 51 rfl rfl) (tg1 1 rfl rfl) (tg2 52 rfl rfl)) (by decide +kernel) ⟨Nat.le_of_ble_eq_true rfl, Nat.le_of_ble_eq_true rfl⟩ rfl cx_T rfl rfl (Nat.le_of_ble_eq_true rfl) dL_block_7 ⟨Nat.le_of_ble_eq_true rfl, Nat.le_of_ble_eq_true rfl⟩ (fun E q g1 hp => ?_) (fun r g1 hp => ?_)
  · obtain ⟨hne, hE, hR1, hF1⟩ := hp
    have hle := le_block f k v s
    have hc1 : cdBlock s f k v = 1 := by omega
    subst hE
    rw [hc1]
    show VT P _ _ _ _ _ (exC 0) q g1 _ _
    refine v_catch C hS hT 0 (k := 0) rfl ⟨by decide, by decide⟩ (by decide) (tg2 215 rfl rfl) (List.mem_of_getElem? (i := 3) rfl) (fun j hj => absurd hj (Nat.not_lt_zero j)) ?_
    refine v_astore (lo' := [some (.ref (Z.ad 30)), some (.int f), some (.int k), some (.int v), some (.ref (Z.ad 500)), some (.ref q)]) C dL_block_15 (Nat.le_of_ble_eq_true rfl) rfl rfl ?_
    refine v_iconst (v := 1) C dL_block_17 (by decide) ?_
    exact ret _ _ _ _ _ dL_block_18 ⟨by rw [hc1]; rfl, adE.rf, g1, hR1, hF1, by rw [if_neg hne]⟩
  · obtain ⟨hcd, han, hR1, hF1⟩ := hp
    refine v_i2l C dL_block_10 ?_
    refine v_last C dL_block_11 ?_
    refine v_goto (tgt := 19) C dL_block_12 (by decide) ?_
    refine v_iconst (v := 0) C dL_block_19 (by decide) ?_
    exact ret Z.ad _ _ _ _ dL_block_20 ⟨by rw [hcd]; rfl, adE.rf, g1, hR1, hF1, by rw [if_pos hcd, han]⟩
theorem le_told (p v : Int32) (s : MG) : cdTold s p v ≤ 1 := by
  unfold cdTold
  repeat' split
  all_goals decide
set_option maxRecDepth 100000 in
theorem w_told (l : Launch) (hl9 : l.stackTraces = false) (Z : Zc) (p v : Int32) (N : Nat) (s g : MG) (hI : LI N s) (hR : Rl s g) : MW l yL_told cL_told 5 [(0, 10, 13, 21)] (rmz 9 290 1 6) Z [.ref (Z.ad 30), .int p, .int v, .ref (Z.ad 500)] g (WQ Z g (cdTold s p v) (toldO s (iz p) (iz v)) (s)) := by
  refine ent_w (lo := [some (.ref (Z.ad 30)), some (.int p), some (.int v), some (.ref (Z.ad 500)), none]) (by decide) rfl (by simp [lg_sl, Value.category]) rfl (fun P hl C hS hT ret => ?_)
  refine v_aload_n C dL_told_0 rfl rfl ?_
  refine v_iconst (v := 0) C dL_told_1 (by decide) ?_
  refine v_aload_n C dL_told_2 rfl rfl ?_
  refine v_iload_n C dL_told_3 rfl rfl ?_
  refine v_iload_n C dL_told_4 rfl rfl ?_
  refine v_callX (n := 2) (as := [.int p, .int v]) C hS (x_told _ (by rw [hl]; exact hl9) Z p v s g hI.1 hI.2.1 hR) (gv (tg3 144 rfl rfl) (tg2 67 rfl rfl) (tg2 68 rfl rfl) (tg1 1 rfl rfl) (tg2 69 rfl rfl)) (by decide +kernel) ⟨Nat.le_of_ble_eq_true rfl, Nat.le_of_ble_eq_true rfl⟩ rfl cx_T rfl rfl (Nat.le_of_ble_eq_true rfl) dL_told_5 ⟨Nat.le_of_ble_eq_true rfl, Nat.le_of_ble_eq_true rfl⟩ (fun E q g1 hp => ?_) (fun r g1 hp => ?_)
  · obtain ⟨hne, hE, hR1, hF1⟩ := hp
    have hle := le_told p v s
    have hc1 : cdTold s p v = 1 := by omega
    subst hE
    rw [hc1]
    show VT P _ _ _ _ _ (exC 0) q g1 _ _
    refine v_catch C hS hT 0 (k := 0) rfl ⟨by decide, by decide⟩ (by decide) (tg2 215 rfl rfl) (List.mem_of_getElem? (i := 3) rfl) (fun j hj => absurd hj (Nat.not_lt_zero j)) ?_
    refine v_astore (lo' := [some (.ref (Z.ad 30)), some (.int p), some (.int v), some (.ref (Z.ad 500)), some (.ref q)]) C dL_told_13 (Nat.le_of_ble_eq_true rfl) rfl rfl ?_
    refine v_iconst (v := 1) C dL_told_15 (by decide) ?_
    exact ret _ _ _ _ _ dL_told_16 ⟨by rw [hc1]; rfl, adE.rf, g1, hR1, hF1, by rw [if_neg hne]⟩
  · obtain ⟨hcd, han, hR1, hF1⟩ := hp
    refine v_i2l C dL_told_8 ?_
    refine v_last C dL_told_9 ?_
    refine v_goto (tgt := 17) C dL_told_10 (by decide) ?_
    refine v_iconst (v := 0) C dL_told_17 (by decide) ?_
    exact ret Z.ad _ _ _ _ dL_told_18 ⟨by rw [hcd]; rfl, adE.rf, g1, hR1, hF1, by rw [if_pos hcd, han]⟩
theorem le_about (p k v : Int32) (s : MG) : cdAbout s p k v ≤ 1 := by
  unfold cdAbout
  repeat' split
  all_goals decide
set_option maxRecDepth 100000 in
theorem w_about (l : Launch) (hl9 : l.stackTraces = false) (Z : Zc) (p k v : Int32) (N : Nat) (s g : MG) (hI : LI N s) (hR : Rl s g) : MW l yL_about cL_about 6 [(0, 12, 15, 21)] (rmz 9 290 1 6) Z [.ref (Z.ad 30), .int p, .int k, .int v, .ref (Z.ad 500)] g (WQ Z g (cdAbout s p k v) (ltoO s (iz p) (iz k) v) (s)) := by
  refine ent_w (lo := [some (.ref (Z.ad 30)), some (.int p), some (.int k), some (.int v), some (.ref (Z.ad 500)), none]) (by decide) rfl (by simp [lg_sl, Value.category]) rfl (fun P hl C hS hT ret => ?_)
  refine v_aload C dL_about_0 rfl ?_
  refine v_iconst (v := 0) C dL_about_2 (by decide) ?_
  refine v_aload_n C dL_about_3 rfl rfl ?_
  refine v_iload_n C dL_about_4 rfl rfl ?_
  refine v_iload_n C dL_about_5 rfl rfl ?_
  refine v_iload_n C dL_about_6 rfl rfl ?_
  refine v_callX (n := 3) (as := [.int p, .int k, .int v]) C hS (x_about _ (by rw [hl]; exact hl9) Z p k v s g hI.1 hI.2.1 hR) (gv (tg3 148 rfl rfl) (tg2 77 rfl rfl) (tg2 78 rfl rfl) (tg1 1 rfl rfl) (tg2 79 rfl rfl)) (by decide +kernel) ⟨Nat.le_of_ble_eq_true rfl, Nat.le_of_ble_eq_true rfl⟩ rfl cx_T rfl rfl (Nat.le_of_ble_eq_true rfl) dL_about_7 ⟨Nat.le_of_ble_eq_true rfl, Nat.le_of_ble_eq_true rfl⟩ (fun E q g1 hp => ?_) (fun r g1 hp => ?_)
  · obtain ⟨hne, hE, hR1, hF1⟩ := hp
    have hle := le_about p k v s
    have hc1 : cdAbout s p k v = 1 := by omega
    subst hE
    rw [hc1]
    show VT P _ _ _ _ _ (exC 0) q g1 _ _
    refine v_catch C hS hT 0 (k := 0) rfl ⟨by decide, by decide⟩ (by decide) (tg2 215 rfl rfl) (List.mem_of_getElem? (i := 3) rfl) (fun j hj => absurd hj (Nat.not_lt_zero j)) ?_
    refine v_astore (lo' := [some (.ref (Z.ad 30)), some (.int p), some (.int k), some (.int v), some (.ref (Z.ad 500)), some (.ref q)]) C dL_about_15 (Nat.le_of_ble_eq_true rfl) rfl rfl ?_
    refine v_iconst (v := 1) C dL_about_17 (by decide) ?_
    exact ret _ _ _ _ _ dL_about_18 ⟨by rw [hc1]; rfl, adE.rf, g1, hR1, hF1, by rw [if_neg hne]⟩
  · obtain ⟨hcd, han, hR1, hF1⟩ := hp
    refine v_i2l C dL_about_10 ?_
    refine v_last C dL_about_11 ?_
    refine v_goto (tgt := 19) C dL_about_12 (by decide) ?_
    refine v_iconst (v := 0) C dL_about_19 (by decide) ?_
    exact ret Z.ad _ _ _ _ dL_about_20 ⟨by rw [hcd]; rfl, adE.rf, g1, hR1, hF1, by rw [if_pos hcd, han]⟩
theorem le_count (v : Int32) (s : MG) : cdCount v ≤ 1 := by
  unfold cdCount
  repeat' split
  all_goals decide
set_option maxRecDepth 100000 in
theorem w_count (l : Launch) (hl9 : l.stackTraces = false) (Z : Zc) (v : Int32) (N : Nat) (s g : MG) (hI : LI N s) (hR : Rl s g) : MW l yL_count cL_count 4 [(0, 9, 12, 21)] (rmz 9 290 1 6) Z [.ref (Z.ad 30), .int v, .ref (Z.ad 500)] g (WQ Z g (cdCount v) (ctO s (iz v)) (s)) := by
  refine ent_w (lo := [some (.ref (Z.ad 30)), some (.int v), some (.ref (Z.ad 500)), none]) (by decide) rfl (by simp [lg_sl, Value.category]) rfl (fun P hl C hS hT ret => ?_)
  refine v_aload_n C dL_count_0 rfl rfl ?_
  refine v_iconst (v := 0) C dL_count_1 (by decide) ?_
  refine v_aload_n C dL_count_2 rfl rfl ?_
  refine v_iload_n C dL_count_3 rfl rfl ?_
  refine v_callX (n := 1) (as := [.int v]) C hS (x_count _ (by rw [hl]; exact hl9) Z v s g hI.1 hI.2.2.1 hR) (gv (tg3 152 rfl rfl) (tg1 198 rfl rfl) (tg1 199 rfl rfl) (tg1 1 rfl rfl) (tg1 200 rfl rfl)) (by decide +kernel) ⟨Nat.le_of_ble_eq_true rfl, Nat.le_of_ble_eq_true rfl⟩ rfl cx_T rfl rfl (Nat.le_of_ble_eq_true rfl) dL_count_4 ⟨Nat.le_of_ble_eq_true rfl, Nat.le_of_ble_eq_true rfl⟩ (fun E q g1 hp => ?_) (fun r g1 hp => ?_)
  · obtain ⟨hne, hE, hR1, hF1⟩ := hp
    have hle := le_count v s
    have hc1 : cdCount v = 1 := by omega
    subst hE
    rw [hc1]
    show VT P _ _ _ _ _ (exC 0) q g1 _ _
    refine v_catch C hS hT 0 (k := 0) rfl ⟨by decide, by decide⟩ (by decide) (tg2 215 rfl rfl) (List.mem_of_getElem? (i := 3) rfl) (fun j hj => absurd hj (Nat.not_lt_zero j)) ?_
    refine v_astore_n (lo' := [some (.ref (Z.ad 30)), some (.int v), some (.ref (Z.ad 500)), some (.ref q)]) C dL_count_12 rfl (Nat.le_of_ble_eq_true rfl) rfl rfl ?_
    refine v_iconst (v := 1) C dL_count_13 (by decide) ?_
    exact ret _ _ _ _ _ dL_count_14 ⟨by rw [hc1]; rfl, adE.rf, g1, hR1, hF1, by rw [if_neg hne]⟩
  · obtain ⟨hcd, han, hR1, hF1⟩ := hp
    refine v_i2l C dL_count_7 ?_
    refine v_last C dL_count_8 ?_
    refine v_goto (tgt := 15) C dL_count_9 (by decide) ?_
    refine v_iconst (v := 0) C dL_count_15 (by decide) ?_
    exact ret Z.ad _ _ _ _ dL_count_16 ⟨by rw [hcd]; rfl, adE.rf, g1, hR1, hF1, by rw [if_pos hcd, han]⟩
theorem le_would (p v : Int32) (s : MG) : cdWould s p v ≤ 1 := by
  unfold cdWould
  repeat' split
  all_goals decide
set_option maxRecDepth 100000 in
theorem w_would (l : Launch) (hl9 : l.stackTraces = false) (Z : Zc) (p v : Int32) (N : Nat) (s g : MG) (hI : LI N s) (hR : Rl s g) : MW l yL_would cL_would 5 [(0, 10, 13, 21)] (rmz 9 290 1 6) Z [.ref (Z.ad 30), .int p, .int v, .ref (Z.ad 500)] g (WQ Z g (cdWould s p v) (anWould s p v) (s)) := by
  refine ent_w (lo := [some (.ref (Z.ad 30)), some (.int p), some (.int v), some (.ref (Z.ad 500)), none]) (by decide) rfl (by simp [lg_sl, Value.category]) rfl (fun P hl C hS hT ret => ?_)
  refine v_aload_n C dL_would_0 rfl rfl ?_
  refine v_iconst (v := 0) C dL_would_1 (by decide) ?_
  refine v_aload_n C dL_would_2 rfl rfl ?_
  refine v_iload_n C dL_would_3 rfl rfl ?_
  refine v_iload_n C dL_would_4 rfl rfl ?_
  refine v_callX (n := 2) (as := [.int p, .int v]) C hS (x_would _ (by rw [hl]; exact hl9) Z p v s g hI.1 N hI.2.2.2.2 hR) (gv (tg3 156 rfl rfl) (tg3 157 rfl rfl) (tg3 158 rfl rfl) (tg1 1 rfl rfl) (tg3 159 rfl rfl)) (by decide +kernel) ⟨Nat.le_of_ble_eq_true rfl, Nat.le_of_ble_eq_true rfl⟩ rfl cx_T rfl rfl (Nat.le_of_ble_eq_true rfl) dL_would_5 ⟨Nat.le_of_ble_eq_true rfl, Nat.le_of_ble_eq_true rfl⟩ (fun E q g1 hp => ?_) (fun r g1 hp => ?_)
  · obtain ⟨hne, hE, hR1, hF1⟩ := hp
    have hle := le_would p v s
    have hc1 : cdWould s p v = 1 := by omega
    subst hE
    rw [hc1]
    show VT P _ _ _ _ _ (exC 0) q g1 _ _
    refine v_catch C hS hT 0 (k := 0) rfl ⟨by decide, by decide⟩ (by decide) (tg2 215 rfl rfl) (List.mem_of_getElem? (i := 3) rfl) (fun j hj => absurd hj (Nat.not_lt_zero j)) ?_
    refine v_astore (lo' := [some (.ref (Z.ad 30)), some (.int p), some (.int v), some (.ref (Z.ad 500)), some (.ref q)]) C dL_would_13 (Nat.le_of_ble_eq_true rfl) rfl rfl ?_
    refine v_iconst (v := 1) C dL_would_15 (by decide) ?_
    exact ret _ _ _ _ _ dL_would_16 ⟨by rw [hc1]; rfl, adE.rf, g1, hR1, hF1, by rw [if_neg hne]⟩
  · obtain ⟨hcd, han, hR1, hF1⟩ := hp
    refine v_i2l C dL_would_8 ?_
    refine v_last C dL_would_9 ?_
    refine v_goto (tgt := 17) C dL_would_10 (by decide) ?_
    refine v_iconst (v := 0) C dL_would_17 (by decide) ?_
    exact ret Z.ad _ _ _ _ dL_would_18 ⟨by rw [hcd]; rfl, adE.rf, g1, hR1, hF1, by rw [if_pos hcd, han]⟩
theorem le_advise (p : Int32) (s : MG) : cdAdvise s p ≤ 1 := by
  unfold cdAdvise
  repeat' split
  all_goals decide
set_option maxRecDepth 100000 in
theorem w_advise (l : Launch) (hl9 : l.stackTraces = false) (Z : Zc) (p : Int32) (N : Nat) (s g : MG) (hI : LI N s) (hR : Rl s g) : MW l yL_advise cL_advise 4 [(0, 9, 12, 21)] (rmz 9 290 1 6) Z [.ref (Z.ad 30), .int p, .ref (Z.ad 500)] g (WQ Z g (cdAdvise s p) (anAdvise s (iz p)) (s)) := by
  refine ent_w (lo := [some (.ref (Z.ad 30)), some (.int p), some (.ref (Z.ad 500)), none]) (by decide) rfl (by simp [lg_sl, Value.category]) rfl (fun P hl C hS hT ret => ?_)
  refine v_aload_n C dL_advise_0 rfl rfl ?_
  refine v_iconst (v := 0) C dL_advise_1 (by decide) ?_
  refine v_aload_n C dL_advise_2 rfl rfl ?_
  refine v_iload_n C dL_advise_3 rfl rfl ?_
  refine v_callX (n := 1) (as := [.int p]) C hS (x_advise _ (by rw [hl]; exact hl9) Z p s g hI.1 N hI.2.2.2.2 hR) (gv (tg3 164 rfl rfl) (tg3 165 rfl rfl) (tg3 166 rfl rfl) (tg1 1 rfl rfl) (tg3 167 rfl rfl)) (by decide +kernel) ⟨Nat.le_of_ble_eq_true rfl, Nat.le_of_ble_eq_true rfl⟩ rfl cx_T rfl rfl (Nat.le_of_ble_eq_true rfl) dL_advise_4 ⟨Nat.le_of_ble_eq_true rfl, Nat.le_of_ble_eq_true rfl⟩ (fun E q g1 hp => ?_) (fun r g1 hp => ?_)
  · obtain ⟨hne, hE, hR1, hF1⟩ := hp
    have hle := le_advise p s
    have hc1 : cdAdvise s p = 1 := by omega
    subst hE
    rw [hc1]
    show VT P _ _ _ _ _ (exC 0) q g1 _ _
    refine v_catch C hS hT 0 (k := 0) rfl ⟨by decide, by decide⟩ (by decide) (tg2 215 rfl rfl) (List.mem_of_getElem? (i := 3) rfl) (fun j hj => absurd hj (Nat.not_lt_zero j)) ?_
    refine v_astore_n (lo' := [some (.ref (Z.ad 30)), some (.int p), some (.ref (Z.ad 500)), some (.ref q)]) C dL_advise_12 rfl (Nat.le_of_ble_eq_true rfl) rfl rfl ?_
    refine v_iconst (v := 1) C dL_advise_13 (by decide) ?_
    exact ret _ _ _ _ _ dL_advise_14 ⟨by rw [hc1]; rfl, adE.rf, g1, hR1, hF1, by rw [if_neg hne]⟩
  · obtain ⟨hcd, han, hR1, hF1⟩ := hp
    refine v_i2l C dL_advise_7 ?_
    refine v_last C dL_advise_8 ?_
    refine v_goto (tgt := 15) C dL_advise_9 (by decide) ?_
    refine v_iconst (v := 0) C dL_advise_15 (by decide) ?_
    exact ret Z.ad _ _ _ _ dL_advise_16 ⟨by rw [hcd]; rfl, adE.rf, g1, hR1, hF1, by rw [if_pos hcd, han]⟩
theorem le_lasts (p : Int32) (s : MG) : cdLasts s p ≤ 2 := by
  unfold cdLasts
  repeat' split
  all_goals decide
set_option maxRecDepth 100000 in
theorem w_lasts (l : Launch) (hl9 : l.stackTraces = false) (Z : Zc) (p : Int32) (N : Nat) (s g : MG) (hI : LI N s) (hR : Rl s g) : MW l yL_lasts cL_lasts 4 [(0, 9, 12, 21), (0, 9, 15, 15)] (rmz 9 290 1 6) Z [.ref (Z.ad 30), .int p, .ref (Z.ad 500)] g (WQ Z g (cdLasts s p) (laO s (iz p) 50) (s)) := by
  refine ent_w (lo := [some (.ref (Z.ad 30)), some (.int p), some (.ref (Z.ad 500)), none]) (by decide) rfl (by simp [lg_sl, Value.category]) rfl (fun P hl C hS hT ret => ?_)
  refine v_aload_n C dL_lasts_0 rfl rfl ?_
  refine v_iconst (v := 0) C dL_lasts_1 (by decide) ?_
  refine v_aload_n C dL_lasts_2 rfl rfl ?_
  refine v_iload_n C dL_lasts_3 rfl rfl ?_
  refine v_callX (n := 1) (as := [.int p]) C hS (x_lasts _ (by rw [hl]; exact hl9) Z p s g hI.1 hI.2.1 N hI.2.2.2.2 hI.2.2.1 hR) (gv (tg3 178 rfl rfl) (tg3 179 rfl rfl) (tg3 180 rfl rfl) (tg1 1 rfl rfl) (tg3 181 rfl rfl)) (by decide +kernel) ⟨Nat.le_of_ble_eq_true rfl, Nat.le_of_ble_eq_true rfl⟩ rfl cx_T rfl rfl (Nat.le_of_ble_eq_true rfl) dL_lasts_4 ⟨Nat.le_of_ble_eq_true rfl, Nat.le_of_ble_eq_true rfl⟩ (fun E q g1 hp => ?_) (fun r g1 hp => ?_)
  · obtain ⟨hne, hE, hR1, hF1⟩ := hp
    have hle := le_lasts p s
    by_cases hc1 : cdLasts s p = 1
    · subst hE
      rw [hc1]
      show VT P _ _ _ _ _ (exC 0) q g1 _ _
      refine v_catch C hS hT 0 (k := 0) rfl ⟨by decide, by decide⟩ (by decide) (tg2 215 rfl rfl) (List.mem_of_getElem? (i := 3) rfl) (fun j hj => absurd hj (Nat.not_lt_zero j)) ?_
      refine v_astore_n (lo' := [some (.ref (Z.ad 30)), some (.int p), some (.ref (Z.ad 500)), some (.ref q)]) C dL_lasts_12 rfl (Nat.le_of_ble_eq_true rfl) rfl rfl ?_
      refine v_iconst (v := 1) C dL_lasts_13 (by decide) ?_
      exact ret _ _ _ _ _ dL_lasts_14 ⟨by rw [hc1]; rfl, adE.rf, g1, hR1, hF1, by rw [if_neg hne]⟩
    · have hc2 : cdLasts s p = 2 := by omega
      subst hE
      rw [hc2]
      show VT P _ _ _ _ _ (exC 2) q g1 _ _
      refine v_catch C hS hT 1 (k := 2) rfl ⟨by decide, by decide⟩ (by decide) (tg2 90 rfl rfl) (List.mem_of_getElem? (i := 5) rfl) (fun j hj => by obtain rfl := (show j = 0 by omega); exact ⟨_, 0, rfl, by decide, (tg2 215 rfl rfl), List.mem_of_getElem? (i := 3) rfl⟩) ?_
      refine v_astore_n (lo' := [some (.ref (Z.ad 30)), some (.int p), some (.ref (Z.ad 500)), some (.ref q)]) C dL_lasts_15 rfl (Nat.le_of_ble_eq_true rfl) rfl rfl ?_
      refine v_iconst (v := 2) C dL_lasts_16 (by decide) ?_
      exact ret _ _ _ _ _ dL_lasts_17 ⟨by rw [hc2]; rfl, adE.rf, g1, hR1, hF1, by rw [if_neg hne]⟩
  · obtain ⟨hcd, han, hR1, hF1⟩ := hp
    refine v_i2l C dL_lasts_7 ?_
    refine v_last C dL_lasts_8 ?_
    refine v_goto (tgt := 18) C dL_lasts_9 (by decide) ?_
    refine v_iconst (v := 0) C dL_lasts_18 (by decide) ?_
    exact ret Z.ad _ _ _ _ dL_lasts_19 ⟨by rw [hcd]; rfl, adE.rf, g1, hR1, hF1, by rw [if_pos hcd, han]⟩
