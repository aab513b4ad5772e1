/-! THE JDK'S TEXTS: a builder's start; a text out of a builder -/
theorem ent_lvI {l : Launch} {y : MethodName} {cc : ByteArray} {maxL : Nat} {rm : Room} {Z : Zc} {as : List Value} {ad : Nat → Nat} {m g : MG} {post : (Nat → Nat) → MG → MG → Prop} {own : String} {lo : Lo} (hyi : y.name = "<init>") (hy : plainName y.cls = true) (ho : y.cls = own) (hlen : (lg_sl as).length ≤ maxL) (hlo : loA (lv_args 0 as) maxL = lo)
    (body : ∀ P : Pm, P.2.1 = l → Cx P Z cc own → CxW P Z → CxI P → (∀ (pc : Nat) (lo' : Lo) (ad' : Nat → Nat) (m' g' : MG), decode cc pc = .ok (.return_, 1) → post ad' m' g' → V P rm (Z.wl ad' m') lo' pc [] g' rm.cells rm.slots) → V P rm (Z.wl ad m) lo 0 [] g 0 0) : LMv l y cc maxL rm Z as ad m g post := by
  refine Met.ofW (cc := cc) (maxL := maxL) (ret := none) hy rfl ?_
  intro p e s mm args below meth c s₁ B hml hv
  obtain ⟨rfl, ⟨hw, hK, hz, hst⟩, hW9⟩ := hv
  have hts : ∀ w ∈ wsG, w.before as.toArray s = true := fun w h => atoms_spec (ws := wz y cc maxL (none)) B.pre w (List.mem_cons_of_mem _ h)
  have hown : s.vm.findClass own = some mm.cls := ho ▸ findClass_of_methodNamed B.named
  have hin : meth.name = "<init>" := (name_of_methodNamed B.named B.method).1.trans hyi
  have hl := lv_entry as hlen
  rw [lg_entry_eq]
  generalize (lg_sl as ++ List.replicate (maxL - (lg_sl as).length) Slot.unset).toArray = ls at hl ⊢
  refine body (p, l, e, s, mm, as.toArray, below, meth, c, _, maxL) rfl ⟨B.exec, B.bytes, hml, hown, hts, hK, hz, B.notSynchronized, hst⟩ hW9 hin ?_ ls s.heap [] (hlo ▸ Lv_of hl) hw va_S.rf
  intro pc lo' ad' m' g' hdg hp ls H locs hl hw' hS
  exact W.vret B.exec B.bytes B.returns (fun t ht hW => ⟨⟨(ad', m', g'), rfl, hp, Wd_of (Z := Z.wl ad' m') hw' hK hz hst hS ht hW.alike⟩, hS.F ht⟩) hS.2.2 hdg
theorem rwr_rwr (m : MG) (k : Nat) (r r' : Nat → Int32) : rwr (rwr m k r) k r' = rwr m k r' := by
  funext q
  by_cases h : q = k
  · rw [h, rwr_same, rwr_same]
  · rw [rwr_ne _ _ _ h, rwr_ne _ _ _ h, rwr_ne _ _ _ h]
theorem b_fit : ∀ b, b < 128 → fits .byte (.int (nI b)) = true := by decide +kernel
section LMV
variable {P : Pm} {R : Room} {Z : Zc} {lo : Lo} {pc : Nat} {st : List Value} {g : MG} {cs sl : Nat} {ad : Nat → Nat} {m : MG}
/-- a row of numbers that lies at S comes to T, what else lies from T on is let go -/
theorem l_mv {ad0 : Nat → Nat} {m0 : MG} {T S : Nat} (hF : Fr m0 T) (hS : T ≤ S ∧ S < 1200) (hA : ∀ k, k < T → ad k = ad0 k) (hm : ∀ k, 600 ≤ k → k < T → m k = m0 k) (h1 : m S 100000 = 1) (kk : V P R (Z.wl (upN ad0 T (ad S)) (rwr m0 T (m S))) lo pc st g cs sl) : V P R (Z.wl ad m) lo pc st g cs sl := by
  have h6 := hF.1.1
  refine l_map (fun k => if k = T then S else k) (fun k hk => by rw [upN_o _ (by omega), hA k (by omega)]) (fun k k1 k2 h => ?_) (fun a b a1 a2 b1 b2 ha hb hab => ?_) kk
  · by_cases hk : k = T
    · subst hk
      refine ⟨by rw [if_pos rfl]; omega, ?_, by rw [if_pos rfl, upN_s]⟩
      rw [if_pos rfl, rwr_same]
      unfold cW
      rw [if_pos h1, if_pos h1]
    · rw [rwr_ne _ _ _ hk] at h
      have hkT : k < T := Nat.lt_of_not_le fun q => h (hF.2.1 k q)
      refine ⟨by rw [if_neg hk]; exact ⟨k1, k2⟩, ?_, by rw [if_neg hk, upN_o _ hk, hA k hkT]⟩
      rw [if_neg hk, rwr_ne _ _ _ hk, hm k k1 hkT]
      exact (cW_rf (m' := Z.Y.m) (hF.2.2 k k1 hkT) (fun q _ hq => by rw [upN_o _ (by omega), hA q hq]))
  · by_cases h2 : a = T <;> by_cases h3 : b = T
    · rw [h2, h3]
    · exfalso
      rw [if_pos h2, if_neg h3] at hab
      rw [rwr_ne _ _ _ h3] at hb
      have hbT : b < T := Nat.lt_of_not_le fun q => hb (hF.2.1 b q)
      omega
    · exfalso
      rw [if_neg h2, if_pos h3] at hab
      rw [rwr_ne _ _ _ h2] at ha
      have haT : a < T := Nat.lt_of_not_le fun q => ha (hF.2.1 a q)
      omega
    · rw [if_neg h2, if_neg h3] at hab; exact hab
end LMV
theorem Fr.mv {m0 : MG} {T : Nat} {r : Nat → Int32} (hF : Fr m0 T) (hT : T < 1200) (h1 : r 100000 = 1) : Fr (rwr m0 T r) (T + 1) := hF.new hT (fun j hj => by rw [h1] at hj; exact absurd hj (by simp [isrf]))
set_option maxRecDepth 100000 in
theorem l_sbI (l : Launch) (Z : Zc) (ad : Nat → Nat) (m g : MG) (K T : Nat) (hF : Fr m T) (hT : T < 1198) (hK : 600 ≤ K ∧ K < T) (h9 : m K 100000 = 9) : LMv l yJ5_init_d00df cJ5_init_d00df 2 (rmz 1 40 1 16) Z [.ref (ad K), .int (nI 16)] ad m g (fun ad' m' g' => (∀ k, k ≠ T → ad' k = ad k) ∧ m' = wr (wr (rwr m T (rN 7 16)) K 0 (nI T)) K 1 0 ∧ Fr m' (T + 1) ∧ g' = g) := by
  have hK2 : 600 ≤ K ∧ K < 1200 := ⟨hK.1, by omega⟩
  refine ent_lv (own := RJ5) (lo := [some (.ref (ad K)), some (.int (nI 16))]) (by decide) rfl (by simp [lg_sl, Value.category]) rfl (fun P hl C hW9 ret => ?_)
  refine v_aload_n (C.wl _ _) dJ5_init_d00df_0 rfl rfl ?_
  refine l_objInit (C.wl _ _) (tg3 176 rfl rfl) dJ5_init_d00df_1 (Nat.le_of_ble_eq_true rfl) (Nat.le_of_ble_eq_true rfl) ?_
  refine j_compact C hW9 (tg3 177 rfl rfl) dJ5_init_d00df_4 ?_
  refine v_if_eq (tgt := 25) (C.wl _ _) dJ5_init_d00df_7 (by decide) (fun h7 => ?_) (fun h7 => ?_)
  · exact absurd h7 (by decide)
  · refine v_aload_n (C.wl _ _) dJ5_init_d00df_10 rfl rfl ?_
    refine v_iload_n (C.wl _ _) dJ5_init_d00df_11 rfl rfl ?_
    refine j_newb (T := T) (N := 16) C hF (by omega) (by omega) dJ5_init_d00df_12 (Nat.le_of_ble_eq_true rfl) (Nat.le_of_ble_eq_true rfl) (fun ad12 hA12 => ?_)
    have hF12 := hF.new (by omega) (rN_R (kd := 7) (n := 16) (by omega) (by decide) (by omega))
    refine v_lo (lo' := [some (.ref (ad12 K)), some (.int (nI 16))]) (by rw [hA12 K (by omega)]) ?_
    refine v_st (st' := [.ref (ad12 T), .ref (ad12 K)]) (by rw [hA12 K (by omega)]) ?_
    have k1 : (rwr m T (rN 7 16)) K 100000 = 9 := (congrFun (rwr_ne _ _ _ (by omega)) _).trans h9
    have k2 : (wr (rwr m T (rN 7 16)) K 0 (nI T)) K 100000 = 9 := (wr_ne _ _ _ _ (Or.inr (by decide))).trans k1
    refine j_put (k := K) (x := nI T) C inGB (ci := 8) rfl tyJ4 tyJ4_ok nmJ4 0 (by decide) (tg3 186 rfl rfl) rfl rfl rfl rfl hK2 (cW_9 k1) (Nat.le_of_ble_eq_true rfl) ((cW_9 ((if_neg (by decide : ¬ (100000 : Nat) = 0)).trans k1)).trans (congrArg (fun q => some (Sum.inr (8, q))) (sb_put ⟨by omega, by omega⟩))) dJ5_init_d00df_14 ?_
    have hF14 := hF12.wn (k := K) (j := 0) (k2 := T) (by omega) (by omega) (by omega)
    have hF19 := hF14.put (k := K) (j := 1) (x := 0) (by omega) (by omega) (fun _ => by have : iz (0 : Int32) = 0 := rfl; omega)
    refine v_aload_n (C.wl _ _) dJ5_init_d00df_17 rfl rfl ?_
    refine v_iconst (v := 0) (C.wl _ _) dJ5_init_d00df_18 (by decide) ?_
    refine j_put (k := K) (x := 0) C inGB (ci := 8) rfl tyJ4 tyJ4_ok nmJ4 1 (by decide) (tg3 187 rfl rfl) rfl rfl rfl rfl hK2 (cW_9 k2) (Nat.le_of_ble_eq_true rfl) ((cW_9 ((if_neg (by decide : ¬ (100000 : Nat) = 1)).trans k2)).trans rfl) dJ5_init_d00df_19 ?_
    refine v_goto (tgt := 38) (C.wl _ _) dJ5_init_d00df_22 (by decide) ?_
    exact ret _ _ _ _ _ dJ5_init_d00df_38 ⟨hA12, rfl, hF19, rfl⟩
set_option maxRecDepth 100000 in
theorem l_sbI4 (l : Launch) (Z : Zc) (ad : Nat → Nat) (m g : MG) (K T : Nat) (hF : Fr m T) (hT : T < 1198) (hK : 600 ≤ K ∧ K < T) (h9 : m K 100000 = 9) : LMv l yJ4_init_da8c8 cJ4_init_da8c8 1 (rmz 2 80 1 16) Z [.ref (ad K)] ad m g (fun ad' m' g' => (∀ k, k ≠ T → ad' k = ad k) ∧ m' = wr (wr (rwr m T (rN 7 16)) K 0 (nI T)) K 1 0 ∧ Fr m' (T + 1) ∧ g' = g) := by
  refine ent_lv (own := RJ4) (lo := [some (.ref (ad K))]) (by decide) rfl (by simp [lg_sl, Value.category]) rfl (fun P hl C hW9 ret => ?_)
  refine v_aload_n (C.wl _ _) dJ4_init_da8c8_0 rfl rfl ?_
  refine v_bipush (v := nI 16) (C.wl _ _) dJ4_init_da8c8_1 rfl ?_
  refine l_callI (n := 1) (as := [.int (nI 16)]) C hW9 (l_sbI _ Z ad m g K T hF hT hK h9) (tg3 173 rfl rfl) (tg3 174 rfl rfl) (tg1 21 rfl rfl) (tg3 175 rfl rfl) rfl (by decide +kernel) ⟨Nat.le_of_ble_eq_true rfl, Nat.le_of_ble_eq_true rfl⟩ rfl rfl (Nat.le_of_ble_eq_true rfl) dJ4_init_da8c8_3 ⟨Nat.le_of_ble_eq_true rfl, Nat.le_of_ble_eq_true rfl⟩ (fun ad3 m3 g3 hp3 => ?_)
  exact ret _ _ _ _ _ dJ4_init_da8c8_6 hp3
set_option maxRecDepth 100000 in
theorem l_ckl (l : Launch) (Z : Zc) (ad : Nat → Nat) (m g : MG) (sz : Nat) (hs : sz < 1000) : LMv l yJ7_checkLength_df160 cJ7_checkLength_df160 2 (rmz 0 0 0 0) Z [.int (nI 0), .int (nI sz)] ad m g (fun ad' m' g' => ad' = ad ∧ m' = m ∧ g' = g) := by
  refine ent_lv (own := RJ7) (lo := [some (.int (nI 0)), some (.int (nI sz))]) (by decide) rfl (by simp [lg_sl, Value.category]) rfl (fun P hl C hW9 ret => ?_)
  refine v_iload_n (C.wl _ _) dJ7_checkLength_df160_0 rfl rfl ?_
  refine v_iload_n (C.wl _ _) dJ7_checkLength_df160_1 rfl rfl ?_
  refine v_icmp_ge (tgt := 37) (C.wl _ _) dJ7_checkLength_df160_2 (by decide) (fun h2 => ?_) (fun h2 => ?_)
  · exact ret _ _ _ _ _ dJ7_checkLength_df160_37 ⟨rfl, rfl, rfl⟩
  · exact absurd ((nI_leI (by omega) (by omega)).mpr (Nat.zero_le _)) h2
set_option maxRecDepth 100000 in
theorem l_corB (l : Launch) (Z : Zc) (ad : Nat → Nat) (m g : MG) (V9 n sz T : Nat) (hF : Fr m T) (hT : T < 1199) (hV : 600 ≤ V9 ∧ V9 < T) (hk7 : m V9 100000 = 7) (hn : m V9 100001 = nI n) (hn9 : sz < n ∧ n ≤ 16) (hbf : ∀ i, i < sz → fits .byte (.int (m V9 i)) = true) : LMq l yJ7_copyOfRangeByte_39247 cJ7_copyOfRangeByte_39247 5 (some (.array .byte)) (rmz 1 40 1 16) Z [.ref (ad V9), .int (nI 0), .int (nI sz)] ad m g (fun r ad' m' g' => r = some (ad' T) ∧ (∀ k, k ≠ T → ad' k = ad k) ∧ m' = rwr m T (va_cpy (m V9) (rN 7 sz) 0 0 sz) ∧ g' = g) := by
  refine ent_lq (own := RJ7) (lo := [some (.ref (ad V9)), some (.int (nI 0)), some (.int (nI sz)), none, none]) (Or.inr ⟨_, rfl⟩) (by decide) rfl (by simp [lg_sl, Value.category]) rfl (fun P hl C hW9 ret => ?_)
  refine v_iload_n (C.wl _ _) dJ7_copyOfRangeByte_39247_0 rfl rfl ?_
  refine v_iload_n (C.wl _ _) dJ7_copyOfRangeByte_39247_1 rfl rfl ?_
  refine l_callSv (n := 2) (as := [.int (nI 0), .int (nI sz)]) C hW9 (l_ckl _ Z ad m g sz (by omega)) (gs2 (tg4 121 rfl rfl) (tg4 122 rfl rfl) (tg1 5 rfl rfl) (tg4 123 rfl rfl)) (by decide +kernel) ⟨Nat.le_of_ble_eq_true rfl, Nat.le_of_ble_eq_true rfl⟩ rfl rfl (Nat.le_of_ble_eq_true rfl) dJ7_copyOfRangeByte_39247_2 ⟨Nat.le_of_ble_eq_true rfl, Nat.le_of_ble_eq_true rfl⟩ (fun ad2 m2 g2 hp2 => ?_)
  obtain ⟨ea2, eb2, ec2⟩ := hp2
  replace ea2 := ea2.symm; replace eb2 := eb2.symm; replace ec2 := ec2.symm; subst ea2 eb2 ec2
  refine v_iload_n (C.wl _ _) dJ7_copyOfRangeByte_39247_5 rfl rfl ?_
  refine v_iload_n (C.wl _ _) dJ7_copyOfRangeByte_39247_6 rfl rfl ?_
  refine v_isub (C.wl _ _) dJ7_copyOfRangeByte_39247_7 ?_
  refine v_topi (y := nI sz) (by rw [nI_sub (Nat.zero_le _), Nat.sub_zero]) ?_
  refine v_istore_n (lo' := [some (.ref (ad V9)), some (.int (nI 0)), some (.int (nI sz)), some (.int (nI sz)), none]) (C.wl _ _) dJ7_copyOfRangeByte_39247_8 rfl (Nat.le_of_ble_eq_true rfl) rfl rfl ?_
  refine v_iload_n (C.wl _ _) dJ7_copyOfRangeByte_39247_9 rfl rfl ?_
  refine j_newb (T := T) (N := sz) C hF (by omega) (by omega) dJ7_copyOfRangeByte_39247_10 (Nat.le_of_ble_eq_true rfl) (by show 0 + sz ≤ 16; omega) (fun ad10 hA10 => ?_)
  have hF10 := hF.new (by omega) (rN_R (kd := 7) (n := sz) (by omega) (by decide) (by omega))
  refine v_lo (lo' := [some (.ref (ad10 V9)), some (.int (nI 0)), some (.int (nI sz)), some (.int (nI sz)), none]) (by rw [hA10 V9 (by omega)]) ?_
  refine v_wide (k := 1) (n := 16) (Nat.le_of_ble_eq_true rfl) (by show 0 + 0 + sz ≤ 16; omega) ?_
  have k0 : ∀ j, (rwr m T (rN 7 sz)) V9 j = m V9 j := fun j => congrFun (rwr_ne _ _ _ (by omega)) _
  have k1 : (rwr m T (rN 7 sz)) T = rN 7 sz := rwr_same _ _ _
  refine v_astore (lo' := [some (.ref (ad10 V9)), some (.int (nI 0)), some (.int (nI sz)), some (.int (nI sz)), some (.ref (ad10 T))]) (C.wl _ _) dJ7_copyOfRangeByte_39247_12 (Nat.le_of_ble_eq_true rfl) rfl rfl ?_
  refine v_aload_n (C.wl _ _) dJ7_copyOfRangeByte_39247_14 rfl rfl ?_
  refine v_iload_n (C.wl _ _) dJ7_copyOfRangeByte_39247_15 rfl rfl ?_
  refine v_aload (C.wl _ _) dJ7_copyOfRangeByte_39247_16 rfl ?_
  refine v_iconst (v := 0) (C.wl _ _) dJ7_copyOfRangeByte_39247_18 (by decide) ?_
  refine v_aload_n (C.wl _ _) dJ7_copyOfRangeByte_39247_19 rfl rfl ?_
  refine j_len (k := V9) (n := n) C ⟨by omega, by omega⟩ ((k0 _).trans hk7) ((k0 _).trans hn) (by omega) dJ7_copyOfRangeByte_39247_20 ?_
  refine v_iload_n (C.wl _ _) dJ7_copyOfRangeByte_39247_21 rfl rfl ?_
  refine v_isub (C.wl _ _) dJ7_copyOfRangeByte_39247_22 ?_
  refine v_iload_n (C.wl _ _) dJ7_copyOfRangeByte_39247_23 rfl rfl ?_
  refine v_mmin (C.wl _ _) (tg3 158 rfl rfl) (tg2 32 rfl rfl) (tg1 14 rfl rfl) (tg2 33 rfl rfl) (Nat.le_of_ble_eq_true rfl) (Nat.le_of_ble_eq_true rfl) (Nat.le_of_ble_eq_true rfl) (Nat.le_of_ble_eq_true rfl) dJ7_copyOfRangeByte_39247_24 ?_
  refine v_topi (y := nI sz) (by rw [nI_sub (Nat.zero_le _), Nat.sub_zero]; exact if_pos (nI_lt (by omega) (by omega))) ?_
  refine v_st (st' := [.int (nI sz), .int (nI 0), .ref (ad10 T), .int (nI 0), .ref (ad10 V9)]) rfl ?_
  refine j_cpy (k := V9) (k2 := T) (n := n) (n2 := sz) C (tg3 159 rfl rfl) (tg1 207 rfl rfl) (tg1 206 rfl rfl) (tg1 15 rfl rfl) ⟨by omega, by omega⟩ ((k0 _).trans hk7) ((k0 _).trans hn) (by omega) ⟨by omega, by omega⟩ (by rw [k1]; rfl) (by rw [k1]; rfl) (by omega) (by omega) (by omega) (fun i hi => by rw [k0, Nat.zero_add]; exact hbf i hi) (Nat.le_of_ble_eq_true rfl) (Nat.le_of_ble_eq_true rfl) dJ7_copyOfRangeByte_39247_27 ?_
  rw [k1, show (rwr m T (rN 7 sz)) V9 = m V9 from funext k0, rwr_rwr]
  refine v_aload (C.wl _ _) dJ7_copyOfRangeByte_39247_30 rfl ?_
  exact ret _ _ (some (ad10 T)) _ _ _ dJ7_copyOfRangeByte_39247_32 ⟨rfl, hA10, rfl, rfl⟩
set_option maxRecDepth 100000 in
theorem l_cor (l : Launch) (Z : Zc) (ad : Nat → Nat) (m g : MG) (V9 n sz T : Nat) (hF : Fr m T) (hT : T < 1199) (hV : 600 ≤ V9 ∧ V9 < T) (hk7 : m V9 100000 = 7) (hn : m V9 100001 = nI n) (hn9 : sz < n ∧ n ≤ 16) (hbf : ∀ i, i < sz → fits .byte (.int (m V9 i)) = true) : LMq l yJ7_copyOfRange_39247 cJ7_copyOfRange_39247 3 (some (.array .byte)) (rmz 2 80 1 16) Z [.ref (ad V9), .int (nI 0), .int (nI sz)] ad m g (fun r ad' m' g' => r = some (ad' T) ∧ (∀ k, k ≠ T → ad' k = ad k) ∧ m' = rwr m T (va_cpy (m V9) (rN 7 sz) 0 0 sz) ∧ g' = g) := by
  refine ent_lq (own := RJ7) (lo := [some (.ref (ad V9)), some (.int (nI 0)), some (.int (nI sz))]) (Or.inr ⟨_, rfl⟩) (by decide) rfl (by simp [lg_sl, Value.category]) rfl (fun P hl C hW9 ret => ?_)
  refine v_iload_n (C.wl _ _) dJ7_copyOfRange_39247_0 rfl rfl ?_
  refine v_if_ne (tgt := 10) (C.wl _ _) dJ7_copyOfRange_39247_1 (by decide) (fun h1 => ?_) (fun h1 => ?_)
  · exact absurd rfl h1
  · refine v_iload_n (C.wl _ _) dJ7_copyOfRange_39247_4 rfl rfl ?_
    refine v_aload_n (C.wl _ _) dJ7_copyOfRange_39247_5 rfl rfl ?_
    refine j_len (k := V9) (n := n) C ⟨by omega, by omega⟩ hk7 hn (by omega) dJ7_copyOfRange_39247_6 ?_
    refine v_icmp_eq (tgt := 17) (C.wl _ _) dJ7_copyOfRange_39247_7 (by decide) (fun h7 => ?_) (fun h7 => ?_)
    · exact absurd ((nI_eq (by omega) (by omega)).mp h7) (by omega)
    · refine v_aload_n (C.wl _ _) dJ7_copyOfRange_39247_10 rfl rfl ?_
      refine v_iload_n (C.wl _ _) dJ7_copyOfRange_39247_11 rfl rfl ?_
      refine v_iload_n (C.wl _ _) dJ7_copyOfRange_39247_12 rfl rfl ?_
      refine l_callSq (n := 3) (as := [.ref (ad V9), .int (nI 0), .int (nI sz)]) C hW9 (l_corB _ Z ad m g V9 n sz T hF hT hV hk7 hn hn9 hbf) (gs2 (tg4 118 rfl rfl) (tg4 119 rfl rfl) (tg1 5 rfl rfl) (tg4 120 rfl rfl)) (by decide +kernel) ⟨Nat.le_of_ble_eq_true rfl, Nat.le_of_ble_eq_true rfl⟩ rfl rfl (Nat.le_of_ble_eq_true rfl) dJ7_copyOfRange_39247_13 ⟨Nat.le_of_ble_eq_true rfl, Nat.le_of_ble_eq_true rfl⟩ (fun r13 ad13 m13 g13 hp13 => ?_)
      exact ret _ _ r13 _ _ _ dJ7_copyOfRange_39247_16 hp13
