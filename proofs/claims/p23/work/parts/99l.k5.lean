/-! THE LAW'S METHODS: the letters of a word -/
theorem Fr.gc {m m1 : MG} {T VK w sz : Nat} (hF : Fr m T) (hG : GcI m m1 VK w sz 0) (h7 : m VK 100000 = 7) (hs : sz ≤ 100000) : Fr m1 T := by
  obtain ⟨h1, h2, h3⟩ := hF
  obtain ⟨g1, g2, -⟩ := hG
  have h71 : m1 VK 100000 = 7 := (g2 _ hs).trans h7
  refine ⟨h1, fun k hk => ?_, fun k k1 k2 => ?_⟩
  · by_cases hq : k = VK
    · rw [hq] at hk
      exact absurd ((h2 VK hk).symm.trans h7) (by decide)
    · rw [g1 k hq]; exact h2 k hk
  · by_cases hq : k = VK
    · rw [hq]
      intro j hj
      rw [h71] at hj
      exact absurd hj (by simp [isrf])
    · rw [g1 k hq]; exact h3 k k1 k2
set_option maxRecDepth 100000 in
theorem l_letters (l : Launch) (Z : Zc) (ad : Nat → Nat) (m g : MG) (w T : Nat) (hw : w ≤ 99999999) (hF : Fr m T) (hT : T < 1190) : LMq l yX5_letters cX5_letters 4 (some (.array .int)) (rmz 7 260 5 60) Z [.int (nI w)] ad m g (fun r ad' m' g' => r = some (ad' T) ∧ (∀ k, k < T → ad' k = ad k) ∧ (∀ k, k < T → m' k = m k) ∧ LtR m' T (szw w) w ∧ Fr m' (T + 1) ∧ g' = g) := by
  have h6 := hF.1.1
  have hs8 := szw_8 hw
  have hs1 := szw_1 w
  refine ent_lq (own := RX5) (lo := [some (.int (nI w)), none, none, none]) (Or.inr ⟨_, rfl⟩) (by decide) rfl (by simp [lg_sl, Value.category]) rfl (fun P hl C hW9 ret => ?_)
  refine l_newo (T := T) (ci := 8) (kd := 9) (fs := [.null, .int 0, .int 0, .int 0]) C hF (by omega) inGB tyJ4 tyJ4_ok (tg3 168 rfl rfl) (tg3 169 rfl rfl) (tg1 22 rfl rfl) rfl (fun _ => rfl) (by decide) (Nat.le_of_ble_eq_true rfl) (Nat.le_of_ble_eq_true rfl) dX5_letters_0 (fun ad0 hA0 => ?_)
  have hF0 := hF.new (by omega) (rN_R (kd := 9) (n := 0) (by omega) (by decide) (by omega))
  refine v_dup (C.wl _ _) dX5_letters_3 rfl ?_
  refine l_callI (n := 0) (as := []) C hW9 (l_sbI4 _ Z ad0 (rwr m T (rN 9 0)) g T (T + 1) hF0 (by omega) ⟨by omega, by omega⟩ (by rw [rwr_same]; rfl)) (tg3 170 rfl rfl) (tg3 171 rfl rfl) (tg1 22 rfl rfl) (tg3 172 rfl rfl) rfl (by decide +kernel) ⟨Nat.le_of_ble_eq_true rfl, Nat.le_of_ble_eq_true rfl⟩ rfl rfl (Nat.le_of_ble_eq_true rfl) dX5_letters_4 ⟨Nat.le_of_ble_eq_true rfl, Nat.le_of_ble_eq_true rfl⟩ (fun ad4 m4 g4 hp4 => ?_)
  obtain ⟨ha4, hm4, hF4, hg4⟩ := hp4
  have k9 : m4 T 100000 = 9 := by rw [hm4, wr_ne _ _ _ _ (Or.inr (by decide)), wr_ne _ _ _ _ (Or.inr (by decide)), rwr_ne _ _ _ (by omega), rwr_same]; rfl
  have kc : m4 T 1 = 0 := by rw [hm4, wr_same]
  have k0 : m4 T 0 = nI (T + 1) := by rw [hm4, wr_ne _ _ _ _ (Or.inr (by decide)), wr_same]
  have k3 : m4 T 3 = 0 := by rw [hm4, wr_ne _ _ _ _ (Or.inr (by decide)), wr_ne _ _ _ _ (Or.inr (by decide)), rwr_ne _ _ _ (by omega), rwr_same]; rfl
  have e7 : m4 (T + 1) = rN 7 16 := by rw [hm4, wr_row _ _ _ _ (by omega), wr_row _ _ _ _ (by omega), rwr_same]
  have k7 : m4 (T + 1) 100000 = 7 := by rw [e7]; rfl
  have kn : m4 (T + 1) 100001 = nI 16 := by rw [e7]; rfl
  have kb : ∀ k, k < T → m4 k = m k := fun k hk => by rw [hm4, wr_row _ _ _ _ (by omega), wr_row _ _ _ _ (by omega), rwr_ne _ _ _ (by omega), rwr_ne _ _ _ (by omega)]
  have kT : 600 ≤ T ∧ T < 1200 := ⟨by omega, by omega⟩
  have kV : 600 ≤ T + 1 ∧ T + 1 < 1200 := ⟨by omega, by omega⟩
  refine v_st (st' := [.ref (ad4 T)]) (by rw [ha4 T (by omega)]) ?_
  rw [hg4]
  refine j_ldcE C hW9 dX5_letters_7 ?_
  refine l_callVq (n := 1) (as := [.ref Z.e]) C hW9 (l_appE4 _ Z ad4 m4 g T kT k9 kc (T + 1) 16 k0 kV k7 kn (by decide) k3) (gv (tg3 200 rfl rfl) (tg3 201 rfl rfl) (tg3 202 rfl rfl) (tg1 22 rfl rfl) (tg3 203 rfl rfl)) (by decide +kernel) ⟨Nat.le_of_ble_eq_true rfl, Nat.le_of_ble_eq_true rfl⟩ rfl kT (cW_9 k9) rfl rfl (Nat.le_of_ble_eq_true rfl) dX5_letters_9 ⟨Nat.le_of_ble_eq_true rfl, Nat.le_of_ble_eq_true rfl⟩ (fun r9 ad9 m9 g9 hp9 => ?_)
  obtain ⟨rfl, ea9, eb9, ec9⟩ := hp9
  replace ea9 := ea9.symm; replace eb9 := eb9.symm; replace ec9 := ec9.symm; subst ea9 eb9 ec9
  refine v_iload_n (C.wl _ _) dX5_letters_12 rfl rfl ?_
  refine v_st (st' := [.int (nI w), .ref (ad4 T)]) rfl ?_
  refine l_callVq (n := 1) (as := [.int (nI w)]) C hW9 (l_appI4 _ Z ad4 m4 g T kT k9 kc (T + 1) 16 k0 kV k7 kn (by decide) k3 w hw (by omega)) (gv (tg4 63 rfl rfl) (tg4 64 rfl rfl) (tg4 65 rfl rfl) (tg1 22 rfl rfl) (tg4 66 rfl rfl)) (by decide +kernel) ⟨Nat.le_of_ble_eq_true rfl, Nat.le_of_ble_eq_true rfl⟩ rfl kT (cW_9 k9) rfl rfl (Nat.le_of_ble_eq_true rfl) dX5_letters_13 ⟨Nat.le_of_ble_eq_true rfl, Nat.le_of_ble_eq_true rfl⟩ (fun r13 ad13 m13 g13 hp13 => ?_)
  obtain ⟨rfl, ea13, ⟨m1, hG, hm13⟩, ec13⟩ := hp13
  replace ea13 := ea13.symm; replace ec13 := ec13.symm; subst ea13 ec13
  have f9 : m13 T 100000 = 9 := by rw [hm13, wr_ne _ _ _ _ (Or.inr (by decide)), hG.1 T (by omega)]; exact k9
  have fc : m13 T 1 = 0 := by rw [hm13, wr_ne _ _ _ _ (Or.inr (by decide)), hG.1 T (by omega)]; exact kc
  have f3 : m13 T 3 = nI (szw w) := by rw [hm13, wr_same]
  have f0 : m13 T 0 = nI (T + 1) := by rw [hm13, wr_ne _ _ _ _ (Or.inr (by decide)), hG.1 T (by omega)]; exact k0
  have f7 : m13 (T + 1) 100000 = 7 := by rw [hm13, wr_row _ _ _ _ (by omega), hG.2.1 _ (by omega)]; exact k7
  have fn : m13 (T + 1) 100001 = nI 16 := by rw [hm13, wr_row _ _ _ _ (by omega), hG.2.1 _ (by omega)]; exact kn
  have fb : ∀ j, j < szw w → m13 (T + 1) j = nI (48 + w / 10 ^ (szw w - 1 - j) % 10) := fun j hj => by rw [hm13, wr_row _ _ _ _ (by omega)]; exact hG.2.2 j (Nat.zero_le _) hj
  have hF13 : Fr m13 (T + 2) := by rw [hm13]; exact (hF4.gc hG k7 (by omega)).put (by omega) (by decide) (fun z => absurd z (by rw [hG.1 T (by omega), k9]; decide))
  refine v_st (st' := [.ref (ad4 T)]) rfl ?_
  refine l_callVq (n := 0) (as := []) C hW9 (l_sbStr _ Z ad4 m13 g T (T + 1) (szw w) (T + 2) hF13 (by omega) ⟨by omega, by omega⟩ f9 fc f3 f0 ⟨by omega, by omega⟩ f7 fn (by omega) (fun i hi => by rw [fb i hi]; exact b_fit _ (by omega))) (gv (tg4 88 rfl rfl) (tg4 89 rfl rfl) (tg4 90 rfl rfl) (tg1 22 rfl rfl) (tg4 91 rfl rfl)) (by decide +kernel) ⟨Nat.le_of_ble_eq_true rfl, Nat.le_of_ble_eq_true rfl⟩ rfl kT (cW_9 f9) rfl rfl (Nat.le_of_ble_eq_true rfl) dX5_letters_16 ⟨Nat.le_of_ble_eq_true rfl, Nat.le_of_ble_eq_true rfl⟩ (fun r16 ad16 m16 g16 hp16 => ?_)
  obtain ⟨rfl, ha16, ⟨x0, x1, x2, x3, x4, x5, x6⟩, hF16, ec16⟩ := hp16
  replace ec16 := ec16.symm; subst ec16
  refine v_st (st' := [.ref (ad16 (T + 2))]) rfl ?_
  have kS : 600 ≤ T + 2 ∧ T + 2 < 1200 := ⟨by omega, by omega⟩
  have kS3 : 600 ≤ T + 3 ∧ T + 3 < 1200 := ⟨by omega, by omega⟩
  have hF16 : Fr m16 (T + 4) := hF16
  have x3 : m16 (T + 2) 0 = nI (T + 3) := x3
  have x4 : m16 (T + 3) 100000 = 7 := x4
  have x5 : m16 (T + 3) 100001 = nI (szw w) := x5
  have x6 : ∀ j, j < szw w → m16 (T + 3) j = nI (48 + w / 10 ^ (szw w - 1 - j) % 10) := fun j hj => (x6 j hj).trans (fb j hj)
  have xb : ∀ k, k < T → m16 k = m k := fun k hk => by rw [x0 k (by omega), hm13, wr_row _ _ _ _ (by omega), hG.1 k (by omega), kb k hk]
  refine v_astore_n (lo' := [some (.int (nI w)), some (.ref (ad16 (T + 2))), none, none]) (C.wl _ _) dX5_letters_19 rfl (Nat.le_of_ble_eq_true rfl) rfl rfl ?_
  refine v_aload_n (C.wl _ _) dX5_letters_20 rfl rfl ?_
  refine l_callVi (n := 0) (as := []) C hW9 (l_slength _ Z ad16 m16 g (T + 2) (T + 3) (szw w) kS x1 x2 x3 kS3 x4 x5 (by omega)) (gv (tg4 148 rfl rfl) (tg4 21 rfl rfl) (tg4 22 rfl rfl) (tg1 23 rfl rfl) (tg4 23 rfl rfl)) (by decide +kernel) ⟨Nat.le_of_ble_eq_true rfl, Nat.le_of_ble_eq_true rfl⟩ rfl kS (cW_8 x1) rfl rfl (Nat.le_of_ble_eq_true rfl) dX5_letters_21 ⟨Nat.le_of_ble_eq_true rfl, Nat.le_of_ble_eq_true rfl⟩ (fun r21 ad21 m21 g21 hp21 => ?_)
  obtain ⟨rfl, ea21, eb21, ec21⟩ := hp21
  replace ea21 := ea21.symm; replace eb21 := eb21.symm; replace ec21 := ec21.symm; subst ea21 eb21 ec21
  refine l_newi (T := T + 4) (N := (szw w)) C hF16 (by omega) (by omega) dX5_letters_24 (Nat.le_of_ble_eq_true rfl) (by show 0 + 4 + 16 + 0 + 0 + 20 + 0 + szw w ≤ 60; omega) (fun ad24 hA24 => ?_)
  have hF24 := hF16.new (by omega) (rN_R (kd := 1) (n := (szw w)) (by omega) (by decide) (by omega))
  refine v_lo (lo' := [some (.int (nI w)), some (.ref (ad24 (T + 2))), none, none]) (by rw [hA24 (T + 2) (by omega)]) ?_
  refine v_astore_n (lo' := [some (.int (nI w)), some (.ref (ad24 (T + 2))), some (.ref (ad24 (T + 4))), none]) (C.wl _ _) dX5_letters_26 rfl (Nat.le_of_ble_eq_true rfl) rfl rfl ?_
  refine v_iconst (v := 0) (C.wl _ _) dX5_letters_27 (by decide) ?_
  refine v_istore_n (lo' := [some (.int (nI w)), some (.ref (ad24 (T + 2))), some (.ref (ad24 (T + 4))), some (.int 0)]) (C.wl _ _) dX5_letters_28 rfl (Nat.le_of_ble_eq_true rfl) rfl rfl ?_
  refine v_wide (k := 5) (n := 60) (Nat.le_of_ble_eq_true rfl) (by show 0 + 4 + 16 + 0 + 0 + 20 + 0 + szw w ≤ 60; omega) ?_
  have hAd : ∀ k, k < T → ad24 k = ad k := fun k hk => by rw [hA24 k (by omega), ha16 k (by omega), ha4 k (by omega), hA0 k (by omega)]
  generalize hmB : rwr m16 (T + 4) (rN 1 (szw w)) = mB
  have b4 : isA mB (T + 4) (szw w) := by rw [← hmB]; exact ⟨by rw [rwr_same]; rfl, by rw [rwr_same]; rfl⟩
  have bo : ∀ q, q ≠ T + 4 → mB q = m16 q := fun q hq => by rw [← hmB]; exact rwr_ne _ _ _ hq
  have loop : ∀ (n2 k : Nat) (m1 : MG), szw w - k < n2 → k ≤ szw w → (∀ q, q ≠ T + 4 → m1 q = m16 q) → isA m1 (T + 4) (szw w) → (∀ c, c < k → m1 (T + 4) c = nI (w / 10 ^ (szw w - 1 - c) % 10)) → V P (rmz 7 260 5 60) (Z.wl ad24 m1) [some (.int (nI w)), some (.ref (ad24 (T + 2))), some (.ref (ad24 (T + 4))), some (.int (nI k))] 29 [] g 5 60 := by
    intro n2
    induction n2 with
    | zero => intro k m1 hn; exact absurd hn (Nat.not_lt_zero _)
    | succ n2 ih =>
      intro k m1 hn hk ho hA hL
      have y1 : m1 (T + 2) 100000 = 8 := by rw [ho _ (by omega)]; exact x1
      have y2 : m1 (T + 2) 1 = 0 := by rw [ho _ (by omega)]; exact x2
      have y3 : m1 (T + 2) 0 = nI (T + 3) := by rw [ho _ (by omega)]; exact x3
      have y4 : m1 (T + 3) 100000 = 7 := by rw [ho _ (by omega)]; exact x4
      have y5 : m1 (T + 3) 100001 = nI (szw w) := by rw [ho _ (by omega)]; exact x5
      refine v_iload_n (C.wl _ _) dX5_letters_29 rfl rfl ?_
      refine v_aload_n (C.wl _ _) dX5_letters_30 rfl rfl ?_
      refine l_len (k := T + 4) (n := szw w) C ⟨by omega, by omega⟩ (Or.inl hA.1) hA.2 (by omega) dX5_letters_31 ?_
      refine v_icmp_ge (tgt := 52) (C.wl _ _) dX5_letters_32 (by decide) (fun h32 => ?_) (fun h32 => ?_)
      · have hkk : k = szw w := Nat.le_antisymm hk ((nI_leI (by omega) (by omega)).mp h32)
        refine v_aload_n (C.wl _ _) dX5_letters_52 rfl rfl ?_
        refine l_mv (ad0 := ad) (m0 := m) (T := T) (S := T + 4) hF ⟨by omega, by omega⟩ hAd (fun q _ hq => by rw [ho q (by omega), xb q hq]) hA.1 ?_
        refine v_st (st' := [.ref (upN ad T (ad24 (T + 4)) T)]) (by rw [upN_s]) ?_
        exact ret _ _ (some (upN ad T (ad24 (T + 4)) T)) _ _ _ dX5_letters_53 ⟨rfl, fun q hq => upN_o _ (by omega), fun q hq => rwr_ne _ _ _ (by omega), ⟨⟨by rw [rwr_same]; exact hA.1, by rw [rwr_same]; exact hA.2⟩, fun c hc => by rw [rwr_same]; exact hL c (by omega)⟩, hF.mv (by omega) hA.1, rfl⟩
      · have hkl : k < szw w := Nat.lt_of_not_le fun q => h32 ((nI_leI (by omega) (by omega)).mpr q)
        refine v_aload_n (C.wl _ _) dX5_letters_35 rfl rfl ?_
        refine v_iload_n (C.wl _ _) dX5_letters_36 rfl rfl ?_
        refine v_aload_n (C.wl _ _) dX5_letters_37 rfl rfl ?_
        refine v_iload_n (C.wl _ _) dX5_letters_38 rfl rfl ?_
        refine l_callVi (n := 1) (as := [.int (nI k)]) C hW9 (l_scharAt _ Z ad24 m1 g (T + 2) (T + 3) (szw w) k (48 + w / 10 ^ (szw w - 1 - k) % 10) kS y1 y2 y3 kS3 y4 y5 ⟨hkl, by omega⟩ (by rw [ho _ (by omega)]; exact x6 k hkl) (by omega)) (gv (tg4 149 rfl rfl) (tg4 150 rfl rfl) (tg4 151 rfl rfl) (tg1 23 rfl rfl) (tg4 152 rfl rfl)) (by decide +kernel) ⟨Nat.le_of_ble_eq_true rfl, Nat.le_of_ble_eq_true rfl⟩ rfl kS (cW_8 y1) rfl rfl (Nat.le_of_ble_eq_true rfl) dX5_letters_39 ⟨Nat.le_of_ble_eq_true rfl, Nat.le_of_ble_eq_true rfl⟩ (fun r39 ad39 m39 g39 hp39 => ?_)
        obtain ⟨rfl, ea39, eb39, ec39⟩ := hp39
        replace ea39 := ea39.symm; replace eb39 := eb39.symm; replace ec39 := ec39.symm; subst ea39 eb39 ec39
        refine v_bipush (v := 48) (C.wl _ _) dX5_letters_42 (by decide) ?_
        refine v_isub (C.wl _ _) dX5_letters_44 ?_
        refine v_topi (y := nI (w / 10 ^ (szw w - 1 - k) % 10)) (by rw [show (48 : Int32) = nI 48 from rfl, nI_sub (by omega), Nat.add_sub_cancel_left]) ?_
        refine l_iast (k := T + 4) (n := szw w) (a := k) C ⟨by omega, by omega⟩ hA.1 hA.2 ⟨hkl, by omega⟩ dX5_letters_45 ?_
        refine v_iinc (lo' := [some (.int (nI w)), some (.ref (ad24 (T + 2))), some (.ref (ad24 (T + 4))), some (.int ((nI k) + 1))]) (C.wl _ _) dX5_letters_46 rfl rfl rfl rfl ?_
        refine v_goto (tgt := 29) (C.wl _ _) dX5_letters_49 (by decide) ?_
        refine v_lo (lo' := [some (.int (nI w)), some (.ref (ad24 (T + 2))), some (.ref (ad24 (T + 4))), some (.int (nI (k + 1)))]) (by rw [nI_succ]) ?_
        refine ih (k + 1) _ (by omega) (by omega) (fun q hq => by rw [wr_row _ _ _ _ hq]; exact ho q hq) ⟨by rw [wr_ne _ _ _ _ (Or.inr (by omega))]; exact hA.1, by rw [wr_ne _ _ _ _ (Or.inr (by omega))]; exact hA.2⟩ (fun c hc => ?_)
        by_cases hck : c = k
        · rw [hck, wr_same]
        · rw [wr_ne _ _ _ _ (Or.inr hck)]; exact hL c (by omega)
  exact loop _ 0 mB (Nat.lt_succ_self _) (Nat.zero_le _) bo b4 (fun c hc => absurd hc (Nat.not_lt_zero _))
