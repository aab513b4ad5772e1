/-! THE JDK'S TEXTS: String out of a builder; Sim.letters -/
/-- a text of its own at T, its bytes behind it -/
def TxI (m m' : MG) (T sz V9 : Nat) : Prop := (∀ k, k < T → m' k = m k) ∧ m' T 100000 = 8 ∧ m' T 1 = 0 ∧ m' T 0 = nI (T + 1) ∧ m' (T + 1) 100000 = 7 ∧ m' (T + 1) 100001 = nI sz ∧ ∀ j, j < sz → m' (T + 1) j = m V9 j
set_option maxRecDepth 100000 in
theorem l_strI (l : Launch) (Z : Zc) (ad : Nat → Nat) (m g : MG) (S K V9 sz T : Nat) (hF : Fr m T) (hT : T < 1199) (hS : 600 ≤ S ∧ S < T) (h8 : m S 100000 = 8) (hK : 600 ≤ K ∧ K < T) (h9 : m K 100000 = 9) (hc : m K 1 = 0) (h3 : m K 3 = nI sz) (h0 : m K 0 = nI V9) (hV : 600 ≤ V9 ∧ V9 < T) (hk7 : m V9 100000 = 7) (hn : m V9 100001 = nI 16) (hsz : sz < 16) (hbf : ∀ i, i < sz → fits .byte (.int (m V9 i)) = true) : LMv l yJ0_init_db425 cJ0_init_db425 5 (rmz 3 120 1 16) Z [.ref (ad S), .ref (ad K), .null] ad m g (fun ad' m' g' => (∀ k, k ≠ T → ad' k = ad k) ∧ m' = wr (rwr (wr m S 1 0) T (va_cpy (m V9) (rN 7 sz) 0 0 sz)) S 0 (nI T) ∧ Fr m' (T + 1) ∧ g' = g) := by
  have hS2 : 600 ≤ S ∧ S < 1200 := ⟨hS.1, by omega⟩
  have hK2 : 600 ≤ K ∧ K < 1200 := ⟨hK.1, by omega⟩
  have hV2 : 600 ≤ V9 ∧ V9 < 1200 := ⟨hV.1, by omega⟩
  refine ent_lvI (own := RJ0) (lo := [some (.ref (ad S)), some (.ref (ad K)), some (.null), none, none]) rfl (by decide) rfl (by simp [lg_sl, Value.category]) rfl (fun P hl C hW9 hI ret => ?_)
  refine v_aload_n (C.wl _ _) dJ0_init_db425_0 rfl rfl ?_
  refine l_objInit (C.wl _ _) (tg4 100 rfl rfl) dJ0_init_db425_1 (Nat.le_of_ble_eq_true rfl) (Nat.le_of_ble_eq_true rfl) ?_
  refine v_aload_n (C.wl _ _) dJ0_init_db425_4 rfl rfl ?_
  refine j_callUq (n := 0) (as := []) C hW9 (l_sbVal _ Z ad m g K V9 hK2 h9 h0 hV2) (fun s args hts hs => j_cu (x := yJ5_getValue_6d5f1) hts (tg4 101 rfl rfl) (tg4 103 rfl rfl) (tg4 102 rfl rfl) (tg4 105 rfl rfl) (hts _ (tg4 104 rfl rfl)) (tg4 102 rfl rfl) (tg1 21 rfl rfl) (tg4 105 rfl rfl) (by decide +kernel) ⟨Nat.le_of_ble_eq_true rfl, Nat.le_of_ble_eq_true rfl⟩) rfl hK2 (cW_9 h9) rfl rfl (Nat.le_of_ble_eq_true rfl) dJ0_init_db425_5 ⟨Nat.le_of_ble_eq_true rfl, Nat.le_of_ble_eq_true rfl⟩ (fun r5 ad5 m5 g5 hp5 => ?_)
  obtain ⟨rfl, ea5, eb5, ec5⟩ := hp5
  replace ea5 := ea5.symm; replace eb5 := eb5.symm; replace ec5 := ec5.symm; subst ea5 eb5 ec5
  refine v_st (st' := [.ref (ad V9)]) rfl ?_
  refine v_astore_n (lo' := [some (.ref (ad S)), some (.ref (ad K)), some (.null), some (.ref (ad V9)), none]) (C.wl _ _) dJ0_init_db425_8 rfl (Nat.le_of_ble_eq_true rfl) rfl rfl ?_
  refine v_aload_n (C.wl _ _) dJ0_init_db425_9 rfl rfl ?_
  refine j_callUi (n := 0) (as := []) C hW9 (l_sbLen _ Z ad m g K hK2 h9) (fun s args hts hs => j_cu (x := yJ5_length_8abf5) hts (tg4 106 rfl rfl) (tg4 108 rfl rfl) (tg4 107 rfl rfl) (tg4 113 rfl rfl) (hts _ (tg4 109 rfl rfl)) (tg4 110 rfl rfl) (tg1 22 rfl rfl) (tg4 111 rfl rfl) (by decide +kernel) ⟨Nat.le_of_ble_eq_true rfl, Nat.le_of_ble_eq_true rfl⟩) rfl hK2 (cW_9 h9) rfl rfl (Nat.le_of_ble_eq_true rfl) dJ0_init_db425_10 ⟨Nat.le_of_ble_eq_true rfl, Nat.le_of_ble_eq_true rfl⟩ (fun r10 ad10 m10 g10 hp10 => ?_)
  obtain ⟨rfl, ea10, eb10, ec10⟩ := hp10
  replace ea10 := ea10.symm; replace eb10 := eb10.symm; replace ec10 := ec10.symm; subst ea10 eb10 ec10
  refine v_topi (y := nI sz) h3 ?_
  refine v_istore (lo' := [some (.ref (ad S)), some (.ref (ad K)), some (.null), some (.ref (ad V9)), some (.int (nI sz))]) (C.wl _ _) dJ0_init_db425_13 (Nat.le_of_ble_eq_true rfl) rfl rfl ?_
  refine v_aload_n (C.wl _ _) dJ0_init_db425_15 rfl rfl ?_
  refine j_callUi (n := 0) (as := []) C hW9 (l_sbLat _ Z ad m g K hK2 h9 hc) (fun s args hts hs => j_cu (x := yJ5_isLatin1_aae02) hts (tg4 114 rfl rfl) (tg3 231 rfl rfl) (tg3 230 rfl rfl) (tg3 233 rfl rfl) (hts _ (tg3 232 rfl rfl)) (tg3 230 rfl rfl) (tg1 21 rfl rfl) (tg3 233 rfl rfl) (by decide +kernel) ⟨Nat.le_of_ble_eq_true rfl, Nat.le_of_ble_eq_true rfl⟩) rfl hK2 (cW_9 h9) rfl rfl (Nat.le_of_ble_eq_true rfl) dJ0_init_db425_16 ⟨Nat.le_of_ble_eq_true rfl, Nat.le_of_ble_eq_true rfl⟩ (fun r16 ad16 m16 g16 hp16 => ?_)
  obtain ⟨rfl, ea16, eb16, ec16⟩ := hp16
  replace ea16 := ea16.symm; replace eb16 := eb16.symm; replace ec16 := ec16.symm; subst ea16 eb16 ec16
  refine v_if_eq (tgt := 41) (C.wl _ _) dJ0_init_db425_19 (by decide) (fun h19 => ?_) (fun h19 => ?_)
  · exact absurd h19 (by decide)
  · refine v_aload_n (C.wl _ _) dJ0_init_db425_22 rfl rfl ?_
    refine v_iconst (v := 0) (C.wl _ _) dJ0_init_db425_23 (by decide) ?_
    refine j_putF (k := S) (x := 0) C inGS (ci := 7) rfl tyJ0 tyJ0_ok nmJ0 1 (by decide) (tg4 138 rfl rfl) rfl hI rfl rfl rfl rfl hS2 (cW_8 h8) (Nat.le_of_ble_eq_true rfl) ((cW_8 ((if_neg (by decide : ¬ (100000 : Nat) = 1)).trans h8)).trans rfl) dJ0_init_db425_24 ?_
    refine v_aload_n (C.wl _ _) dJ0_init_db425_27 rfl rfl ?_
    refine v_aload_n (C.wl _ _) dJ0_init_db425_28 rfl rfl ?_
    refine v_iconst (v := nI 0) (C.wl _ _) dJ0_init_db425_29 rfl ?_
    refine v_iload (C.wl _ _) dJ0_init_db425_30 rfl ?_
    have hVS : V9 ≠ S := fun z => by rw [z, h8] at hk7; exact absurd hk7 (by decide)
    have eV : (wr m S 1 0) V9 = m V9 := wr_row _ _ _ _ hVS
    have hF24 := hF.put (k := S) (j := 1) (x := 0) (by omega) (by omega) (fun _ => by have : iz (0 : Int32) = 0 := rfl; omega)
    refine l_callSq (n := 3) (as := [.ref (ad V9), .int (nI 0), .int (nI sz)]) C hW9 (l_cor _ Z ad (wr m S 1 0) g V9 16 sz T hF24 (by omega) hV (by rw [eV]; exact hk7) (by rw [eV]; exact hn) ⟨hsz, Nat.le_refl _⟩ (fun i hi => by rw [eV]; exact hbf i hi)) (gs2 (tg4 115 rfl rfl) (tg4 116 rfl rfl) (tg1 5 rfl rfl) (tg4 117 rfl rfl)) (by decide +kernel) ⟨Nat.le_of_ble_eq_true rfl, Nat.le_of_ble_eq_true rfl⟩ rfl rfl (Nat.le_of_ble_eq_true rfl) dJ0_init_db425_32 ⟨Nat.le_of_ble_eq_true rfl, Nat.le_of_ble_eq_true rfl⟩ (fun r32 ad32 m32 g32 hp32 => ?_)
    obtain ⟨rfl, ha32, hm32, hg32⟩ := hp32
    rw [eV] at hm32
    have h328 : m32 S 100000 = 8 := by rw [hm32, rwr_ne _ _ _ (by omega), wr_ne _ _ _ _ (Or.inr (by decide))]; exact h8
    have hF32 : Fr m32 (T + 1) := by rw [hm32]; exact hF24.new (by omega) (fun j hj => by rw [show va_cpy (m V9) (rN 7 sz) 0 0 sz 100000 = 7 from (if_neg (by omega)).trans rfl] at hj; exact absurd hj (by simp [isrf]))
    have hF35 := hF32.wn (k := S) (j := 0) (k2 := T) (by omega) (by omega) (by omega)
    refine v_lo (lo' := [some (.ref (ad32 S)), some (.ref (ad32 K)), some (.null), some (.ref (ad32 V9)), some (.int (nI sz))]) (by rw [ha32 S (by omega), ha32 K (by omega), ha32 V9 (by omega)]) ?_
    refine v_st (st' := [.ref (ad32 T), .ref (ad32 S)]) (by rw [ha32 S (by omega)]; rfl) ?_
    refine j_putF (k := S) (x := nI T) C inGS (ci := 7) rfl tyJ0 tyJ0_ok nmJ0 0 (by decide) (tg4 137 rfl rfl) rfl hI rfl rfl rfl rfl hS2 (cW_8 h328) (Nat.le_of_ble_eq_true rfl) ((cW_8 ((if_neg (by decide : ¬ (100000 : Nat) = 0)).trans h328)).trans (congrArg (fun q => some (Sum.inr (7, q))) (sb_put ⟨by omega, by omega⟩))) dJ0_init_db425_35 ?_
    refine v_goto (tgt := 97) (C.wl _ _) dJ0_init_db425_38 (by decide) ?_
    exact ret _ _ _ _ _ dJ0_init_db425_97 ⟨ha32, by rw [hm32], hF35, hg32⟩
set_option maxRecDepth 100000 in
theorem l_strI2 (l : Launch) (Z : Zc) (ad : Nat → Nat) (m g : MG) (S K V9 sz T : Nat) (hF : Fr m T) (hT : T < 1199) (hS : 600 ≤ S ∧ S < T) (h8 : m S 100000 = 8) (hK : 600 ≤ K ∧ K < T) (h9 : m K 100000 = 9) (hc : m K 1 = 0) (h3 : m K 3 = nI sz) (h0 : m K 0 = nI V9) (hV : 600 ≤ V9 ∧ V9 < T) (hk7 : m V9 100000 = 7) (hn : m V9 100001 = nI 16) (hsz : sz < 16) (hbf : ∀ i, i < sz → fits .byte (.int (m V9 i)) = true) : LMv l yJ0_init_81219 cJ0_init_81219 2 (rmz 4 160 1 16) Z [.ref (ad S), .ref (ad K)] ad m g (fun ad' m' g' => (∀ k, k ≠ T → ad' k = ad k) ∧ m' = wr (rwr (wr m S 1 0) T (va_cpy (m V9) (rN 7 sz) 0 0 sz)) S 0 (nI T) ∧ Fr m' (T + 1) ∧ g' = g) := by
  refine ent_lv (own := RJ0) (lo := [some (.ref (ad S)), some (.ref (ad K))]) (by decide) rfl (by simp [lg_sl, Value.category]) rfl (fun P hl C hW9 ret => ?_)
  refine v_aload_n (C.wl _ _) dJ0_init_81219_0 rfl rfl ?_
  refine v_aload_n (C.wl _ _) dJ0_init_81219_1 rfl rfl ?_
  refine v_null (C.wl _ _) dJ0_init_81219_2 ?_
  refine l_callI (n := 2) (as := [.ref (ad K), .null]) C hW9 (l_strI _ Z ad m g S K V9 sz T hF hT hS h8 hK h9 hc h3 h0 hV hk7 hn hsz hbf) (tg4 97 rfl rfl) (tg4 98 rfl rfl) (tg1 23 rfl rfl) (tg4 99 rfl rfl) rfl (by decide +kernel) ⟨Nat.le_of_ble_eq_true rfl, Nat.le_of_ble_eq_true rfl⟩ rfl rfl (Nat.le_of_ble_eq_true rfl) dJ0_init_81219_3 ⟨Nat.le_of_ble_eq_true rfl, Nat.le_of_ble_eq_true rfl⟩ (fun ad3 m3 g3 hp3 => ?_)
  exact ret _ _ _ _ _ dJ0_init_81219_6 hp3
set_option maxRecDepth 100000 in
theorem l_sbStr (l : Launch) (Z : Zc) (ad : Nat → Nat) (m g : MG) (K V9 sz T : Nat) (hF : Fr m T) (hT : T < 1198) (hK : 600 ≤ K ∧ K < T) (h9 : m K 100000 = 9) (hc : m K 1 = 0) (h3 : m K 3 = nI sz) (h0 : m K 0 = nI V9) (hV : 600 ≤ V9 ∧ V9 < T) (hk7 : m V9 100000 = 7) (hn : m V9 100001 = nI 16) (hsz : sz < 16) (hbf : ∀ i, i < sz → fits .byte (.int (m V9 i)) = true) : LMq l yJ4_toString_0e30d cJ4_toString_0e30d 1 (some (.object "java/lang/String")) (rmz 5 190 2 20) Z [.ref (ad K)] ad m g (fun r ad' m' g' => r = some (ad' T) ∧ (∀ k, k < T → ad' k = ad k) ∧ TxI m m' T sz V9 ∧ Fr m' (T + 2) ∧ g' = g) := by
  have h6 := hF.1.1
  refine ent_lq (own := RJ4) (lo := [some (.ref (ad K))]) (Or.inl ⟨_, rfl⟩) (by decide) rfl (by simp [lg_sl, Value.category]) rfl (fun P hl C hW9 ret => ?_)
  refine l_newo (T := T) (ci := 7) (kd := 8) (fs := [.null, .int 0, .int 0, .int 0]) C hF (by omega) inGS tyJ0 tyJ0_ok (tg4 92 rfl rfl) (tg4 93 rfl rfl) (tg1 23 rfl rfl) rfl (fun _ => rfl) (by decide) (Nat.le_of_ble_eq_true rfl) (Nat.le_of_ble_eq_true rfl) dJ4_toString_0e30d_0 (fun ad0 hA0 => ?_)
  have hF0 := hF.new (by omega) (rN_R (kd := 8) (n := 0) (by omega) (by decide) (by omega))
  refine v_lo (lo' := [some (.ref (ad0 K))]) (by rw [hA0 K (by omega)]) ?_
  refine v_dup (C.wl _ _) dJ4_toString_0e30d_3 rfl ?_
  refine v_aload_n (C.wl _ _) dJ4_toString_0e30d_4 rfl rfl ?_
  have kT : (rwr m T (rN 8 0)) T = rN 8 0 := rwr_same _ _ _
  have kK : (rwr m T (rN 8 0)) K = m K := rwr_ne _ _ _ (by omega)
  have kV : (rwr m T (rN 8 0)) V9 = m V9 := rwr_ne _ _ _ (by omega)
  refine l_callI (n := 1) (as := [.ref (ad0 K)]) C hW9 (l_strI2 _ Z ad0 (rwr m T (rN 8 0)) g T K V9 sz (T + 1) hF0 (by omega) ⟨by omega, by omega⟩ (by rw [kT]; rfl) ⟨by omega, by omega⟩ (by rw [kK]; exact h9) (by rw [kK]; exact hc) (by rw [kK]; exact h3) (by rw [kK]; exact h0) ⟨by omega, by omega⟩ (by rw [kV]; exact hk7) (by rw [kV]; exact hn) hsz (fun i hi => by rw [kV]; exact hbf i hi)) (tg4 94 rfl rfl) (tg4 95 rfl rfl) (tg1 23 rfl rfl) (tg4 96 rfl rfl) rfl (by decide +kernel) ⟨Nat.le_of_ble_eq_true rfl, Nat.le_of_ble_eq_true rfl⟩ rfl rfl (Nat.le_of_ble_eq_true rfl) dJ4_toString_0e30d_5 ⟨Nat.le_of_ble_eq_true rfl, Nat.le_of_ble_eq_true rfl⟩ (fun ad5 m5 g5 hp5 => ?_)
  obtain ⟨ha5, hm5, hF5, hg5⟩ := hp5
  rw [kV] at hm5
  refine v_st (st' := [.ref (ad5 T)]) (by rw [ha5 T (by omega)]) ?_
  refine ret _ _ (some (ad5 T)) _ _ _ dJ4_toString_0e30d_8 ⟨rfl, fun k hk => by rw [ha5 k (by omega), hA0 k (by omega)], ⟨fun k hk => ?_, ?_, ?_, ?_, ?_, ?_, fun j hj => ?_⟩, hF5, hg5⟩
  · rw [hm5, wr_row _ _ _ _ (by omega), rwr_ne _ _ _ (by omega), wr_row _ _ _ _ (by omega), rwr_ne _ _ _ (by omega)]
  · rw [hm5, wr_ne _ _ _ _ (Or.inr (by decide)), rwr_ne _ _ _ (by omega), wr_ne _ _ _ _ (Or.inr (by decide)), kT]; rfl
  · rw [hm5, wr_ne _ _ _ _ (Or.inr (by decide)), rwr_ne _ _ _ (by omega), wr_same]
  · rw [hm5, wr_same]
  · rw [hm5, wr_row _ _ _ _ (by omega), rwr_same]; exact (if_neg (by omega)).trans rfl
  · rw [hm5, wr_row _ _ _ _ (by omega), rwr_same]; exact (if_neg (by omega)).trans rfl
  · rw [hm5, wr_row _ _ _ _ (by omega), rwr_same]; exact (if_pos (by omega)).trans (by rw [Nat.zero_add, Nat.sub_zero])
