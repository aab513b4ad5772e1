/-! THE JDK'S TEXTS: Integer.getChars -/
set_option maxRecDepth 100000 in
theorem l_getChars (l : Launch) (Z : Zc) (ad : Nat → Nat) (m g : MG) (VK n w sz : Nat) (hw : w ≤ 99999999) (hsz : szw w = sz) (hV : 600 ≤ VK ∧ VK < 1200) (h70 : m VK 100000 = 7) (hn0 : m VK 100001 = nI n) (hn9 : sz ≤ n ∧ n < 1000) : LMi l yJ6_getChars_ba4f3 cJ6_getChars_ba4f3 7 (some .int) (rmz 0 0 0 0) Z [.int (nI w), .int (nI sz), .ref (ad VK)] ad m g (fun r ad' m' g' => GcI m m' VK w sz 0 ∧ ad' = ad ∧ g' = g) := by
  obtain ⟨hb1, hb2⟩ := szw_b hw
  have hs8 := szw_8 hw
  rw [hsz] at hb1 hb2 hs8
  have h7 : ∀ {c : Nat} (m1 : MG), GcI m m1 VK w sz c → m1 VK 100000 = 7 := fun m1 h => (h.2.1 _ (by omega)).trans h70
  have hn : ∀ {c : Nat} (m1 : MG), GcI m m1 VK w sz c → m1 VK 100001 = nI n := fun m1 h => (h.2.1 _ (by omega)).trans hn0
  refine ent_li (own := RJ6) (lo := [some (.int (nI w)), some (.int (nI sz)), some (.ref (ad VK)), none, none, none, none]) (by decide) rfl (by simp [lg_sl, Value.category]) rfl (fun P hl C hW9 ret => ?_)
  have loop : ∀ (n2 k : Nat) (m1 : MG) (v3 v4 : Option Value), (v4 = none ∨ ∃ i4 : Int32, v4 = some (.int i4)) → 8 - k < n2 → k ≤ 4 → 2 * k < sz → GcI m m1 VK w sz (sz - 2 * k) → V P (rmz 0 0 0 0) (Z.wl ad m1) [some (.int (-(nI (w / 10 ^ (2 * k))))), some (.int (nI sz)), some (.ref (ad VK)), v3, v4, some (.int (nI (sz - 2 * k))), some (.int 0)] 22 [] g 0 0 := by
    intro n2
    induction n2 with
    | zero => intro k m1 v3 v4 _ hn2; exact absurd hn2 (Nat.not_lt_zero _)
    | succ n2 ih =>
      intro k m1 v3 v4 hv4 hn2 hk4 hk hG
      have hp : 0 < 10 ^ (2 * k) := Nat.pow_pos (by decide)
      have hx9 : w / 10 ^ (2 * k) ≤ w := Nat.div_le_self _ _
      generalize hx : w / 10 ^ (2 * k) = x at hx9
      obtain ⟨c, hc⟩ : ∃ c, sz - 2 * k = c + 1 := ⟨sz - 2 * k - 1, by omega⟩
      rw [hc] at hG ⊢
      refine v_iload_n (C.wl _ _) dJ6_getChars_ba4f3_22 rfl rfl ?_
      refine v_bipush (v := -(nI 100)) (C.wl _ _) dJ6_getChars_ba4f3_23 (by decide) ?_
      refine v_icmp_gt (tgt := 72) (C.wl _ _) dJ6_getChars_ba4f3_25 (by decide) (fun h25 => ?_) (fun h25 => ?_)
      · have hx100 : x < 100 := by rw [i_lt, ti_ng (by decide), ti_ng (by omega)] at h25; omega
        refine v_aload_n (C.wl _ _) dJ6_getChars_ba4f3_72 rfl rfl ?_
        refine v_iinc (lo' := [some (.int (-(nI x))), some (.int (nI sz)), some (.ref (ad VK)), v3, v4, some (.int (nI (c))), some (.int 0)]) (v := nI (c)) (C.wl _ _) dJ6_getChars_ba4f3_73 rfl (by rw [show Int32.ofInt (-1) = -1 from rfl, nI_dec (k := c + 1) (by omega)]; try rfl) (by rcases hv4 with rfl | ⟨i4, rfl⟩ <;> rfl) rfl ?_
        refine v_iload (C.wl _ _) dJ6_getChars_ba4f3_76 rfl ?_
        refine j_ones C hW9 (tg4 76 rfl rfl) dJ6_getChars_ba4f3_78 (fun t72 hT72 => ?_)
        refine v_iload_n (C.wl _ _) dJ6_getChars_ba4f3_81 rfl rfl ?_
        refine v_ineg (C.wl _ _) dJ6_getChars_ba4f3_82 ?_
        refine v_topi (y := nI (x)) Int32.neg_neg ?_
        refine j_tld (k := x) (v := nI (48 + x % 10)) (C.wl _ _) hT72 (by omega) (ones_v _) dJ6_getChars_ba4f3_83 ?_
        refine j_bast (k := VK) (n := n) (a := c) C hV (h7 _ hG) (hn _ hG) ⟨by omega, by omega⟩ (b_nar7 _ (by omega)) dJ6_getChars_ba4f3_84 ?_
        have hw1 : w < 10 ^ (2 * k + 2) := by
          have h := Nat.lt_mul_of_div_lt (hx ▸ hx100 : w / 10 ^ (2 * k) < 100) hp
          rw [Nat.pow_add, show (10 : Nat) ^ 2 = 100 from rfl]; omega
        have hd1 : x % 10 = w / 10 ^ (sz - 1 - c) % 10 := by rw [show sz - 1 - c = 2 * k by omega, hx]
        have hG1 := hG.w (by omega) hd1
        generalize wr m1 VK c (nI (48 + x % 10)) = m2 at hG1 ⊢
        refine v_iload_n (C.wl _ _) dJ6_getChars_ba4f3_85 rfl rfl ?_
        refine v_bipush (v := -(nI 9)) (C.wl _ _) dJ6_getChars_ba4f3_86 (by decide) ?_
        have hend : ∀ (m2 : MG), GcI m m2 VK w sz 0 → V P (rmz 0 0 0 0) (Z.wl ad m2) [some (.int (-(nI x))), some (.int (nI sz)), some (.ref (ad VK)), v3, v4, some (.int (nI 0)), some (.int 0)] 104 [] g 0 0 := fun m2 hG2 => by
          refine v_iload (C.wl _ _) dJ6_getChars_ba4f3_104 rfl ?_
          refine v_if_eq (tgt := 118) (C.wl _ _) dJ6_getChars_ba4f3_106 (by decide) (fun _ => ?_) (fun h => absurd rfl h)
          refine v_iload (C.wl _ _) dJ6_getChars_ba4f3_118 rfl ?_
          exact ret _ _ _ _ _ _ dJ6_getChars_ba4f3_120 ⟨hG2, rfl, rfl⟩
        refine v_icmp_ge (tgt := 104) (C.wl _ _) dJ6_getChars_ba4f3_88 (by decide) (fun h88 => ?_) (fun h88 => ?_)
        · have hx10 : x < 10 := by have := (ng_le (by decide) (by omega)).mp h88; omega
          have hc0 : c = 0 := by
            have hw2 : w < 10 ^ (2 * k + 1) := by
              have h := Nat.lt_mul_of_div_lt (hx ▸ hx10 : w / 10 ^ (2 * k) < 10) hp
              rw [Nat.pow_succ]; omega
            rcases hb2 with hb2 | hb2
            · omega
            · have := (Nat.pow_lt_pow_iff_right (by decide : 1 < 10)).mp (Nat.lt_of_le_of_lt hb2 hw2); omega
          subst hc0
          exact hend m2 hG1
        · have hx10 : 10 ≤ x := Nat.le_of_not_lt fun q => h88 ((ng_le (by decide) (by omega)).mpr (by omega))
          have hc0 : c = 1 := by
            have hw2 : 10 ^ (2 * k + 1) ≤ w := by
              have h := Nat.mul_le_of_le_div _ _ _ (hx ▸ hx10 : 10 ≤ w / 10 ^ (2 * k))
              rw [Nat.pow_succ]; omega
            have h1 := (Nat.pow_lt_pow_iff_right (by decide : 1 < 10)).mp (Nat.lt_of_le_of_lt hw2 hb1)
            rcases hb2 with hb2 | hb2
            · omega
            · have := (Nat.pow_lt_pow_iff_right (by decide : 1 < 10)).mp (Nat.lt_of_le_of_lt hb2 hw1); omega
          subst hc0
          have hG := hG1
          refine v_aload_n (C.wl _ _) dJ6_getChars_ba4f3_91 rfl rfl ?_
          refine v_iinc (lo' := [some (.int (-(nI x))), some (.int (nI sz)), some (.ref (ad VK)), v3, v4, some (.int (nI (0))), some (.int 0)]) (v := nI (0)) (C.wl _ _) dJ6_getChars_ba4f3_92 rfl (by rw [show Int32.ofInt (-1) = -1 from rfl, nI_dec (k := 0 + 1) (by omega)]; try rfl) (by rcases hv4 with rfl | ⟨i4, rfl⟩ <;> rfl) rfl ?_
          refine v_iload (C.wl _ _) dJ6_getChars_ba4f3_95 rfl ?_
          refine j_tens C hW9 (tg4 78 rfl rfl) dJ6_getChars_ba4f3_97 (fun t91 hT91 => ?_)
          refine v_iload_n (C.wl _ _) dJ6_getChars_ba4f3_100 rfl rfl ?_
          refine v_ineg (C.wl _ _) dJ6_getChars_ba4f3_101 ?_
          refine v_topi (y := nI (x)) Int32.neg_neg ?_
          refine j_tld (k := x) (v := nI (48 + x / 10)) (C.wl _ _) hT91 (by omega) (tens_v _) dJ6_getChars_ba4f3_102 ?_
          refine j_bast (k := VK) (n := n) (a := 0) C hV (h7 _ hG) (hn _ hG) ⟨by omega, by omega⟩ (b_nar7 _ (by omega)) dJ6_getChars_ba4f3_103 ?_
          have hd2 : x / 10 = w / 10 ^ (sz - 1 - 0) % 10 := by rw [show sz - 1 - 0 = 2 * k + 1 by omega, Nat.pow_succ, ← Nat.div_div_eq_div_mul, hx]; omega
          exact hend _ (hG1.w (by omega) hd2)
      · have hx100 : 100 ≤ x := Nat.le_of_not_lt fun q => h25 (by rw [i_lt, ti_ng (by decide), ti_ng (by omega)]; omega)
        have hw2 : 10 ^ (2 * k + 2) ≤ w := by
          have h := Nat.mul_le_of_le_div _ _ _ (hx ▸ hx100 : 100 ≤ w / 10 ^ (2 * k))
          rw [Nat.pow_add, show (10 : Nat) ^ 2 = 100 from rfl]; omega
        have hk2 := (Nat.pow_lt_pow_iff_right (by decide : 1 < 10)).mp (Nat.lt_of_le_of_lt hw2 hb1)
        obtain ⟨c, rfl⟩ : ∃ c', c = c' + 1 := ⟨c - 1, by omega⟩
        refine v_iload_n (C.wl _ _) dJ6_getChars_ba4f3_28 rfl rfl ?_
        refine v_bipush (v := 100) (C.wl _ _) dJ6_getChars_ba4f3_29 rfl ?_
        refine v_idiv (C.wl _ _) dJ6_getChars_ba4f3_31 (by decide) ?_
        refine v_topi (y := -(nI (x / 100))) (ng_div (by omega)) ?_
        refine v_istore_n (lo' := [some (.int (-(nI x))), some (.int (nI sz)), some (.ref (ad VK)), some (.int (-(nI (x / 100)))), v4, some (.int (nI (c + 1 + 1))), some (.int 0)]) (C.wl _ _) dJ6_getChars_ba4f3_32 rfl (Nat.le_of_ble_eq_true rfl) rfl rfl ?_
        refine v_iload_n (C.wl _ _) dJ6_getChars_ba4f3_33 rfl rfl ?_
        refine v_bipush (v := 100) (C.wl _ _) dJ6_getChars_ba4f3_34 rfl ?_
        refine v_imul (C.wl _ _) dJ6_getChars_ba4f3_36 ?_
        refine v_iload_n (C.wl _ _) dJ6_getChars_ba4f3_37 rfl rfl ?_
        refine v_isub (C.wl _ _) dJ6_getChars_ba4f3_38 ?_
        refine v_topi (y := nI (x % 100)) (ng_rem x) ?_
        refine v_istore (lo' := [some (.int (-(nI x))), some (.int (nI sz)), some (.ref (ad VK)), some (.int (-(nI (x / 100)))), some (.int (nI (x % 100))), some (.int (nI (c + 1 + 1))), some (.int 0)]) (C.wl _ _) dJ6_getChars_ba4f3_39 (Nat.le_of_ble_eq_true rfl) rfl rfl ?_
        refine v_iload_n (C.wl _ _) dJ6_getChars_ba4f3_41 rfl rfl ?_
        refine v_istore_n (lo' := [some (.int (-(nI (x / 100)))), some (.int (nI sz)), some (.ref (ad VK)), some (.int (-(nI (x / 100)))), some (.int (nI (x % 100))), some (.int (nI (c + 1 + 1))), some (.int 0)]) (C.wl _ _) dJ6_getChars_ba4f3_42 rfl (Nat.le_of_ble_eq_true rfl) rfl rfl ?_
        obtain ⟨hr1, hr2⟩ := gc_d (w := w) (k := k) (r := x % 100) (by rw [hx])
        refine v_aload_n (C.wl _ _) dJ6_getChars_ba4f3_43 rfl rfl ?_
        refine v_iinc (lo' := [some (.int (-(nI (x / 100)))), some (.int (nI sz)), some (.ref (ad VK)), some (.int (-(nI (x / 100)))), some (.int (nI (x % 100))), some (.int (nI (c + 1))), some (.int 0)]) (v := nI (c + 1)) (C.wl _ _) dJ6_getChars_ba4f3_44 rfl (by rw [show Int32.ofInt (-1) = -1 from rfl, nI_dec (k := c + 1 + 1) (by omega)]; try rfl) rfl rfl ?_
        refine v_iload (C.wl _ _) dJ6_getChars_ba4f3_47 rfl ?_
        refine j_ones C hW9 (tg4 76 rfl rfl) dJ6_getChars_ba4f3_49 (fun t43 hT43 => ?_)
        refine v_iload (C.wl _ _) dJ6_getChars_ba4f3_52 rfl ?_
        refine j_tld (k := x % 100) (v := nI (48 + x % 100 % 10)) (C.wl _ _) hT43 (by omega) (ones_v _) dJ6_getChars_ba4f3_54 ?_
        refine j_bast (k := VK) (n := n) (a := c + 1) C hV (h7 _ hG) (hn _ hG) ⟨by omega, by omega⟩ (b_nar7 _ (by omega)) dJ6_getChars_ba4f3_55 ?_
        have hG1 := hG.w (d := x % 100 % 10) (by omega) (by rw [show sz - 1 - (c + 1) = 2 * k by omega]; exact hr1)
        generalize wr m1 VK (c + 1) (nI (48 + x % 100 % 10)) = m2 at hG1 ⊢
        have hG := hG1
        refine v_aload_n (C.wl _ _) dJ6_getChars_ba4f3_56 rfl rfl ?_
        refine v_iinc (lo' := [some (.int (-(nI (x / 100)))), some (.int (nI sz)), some (.ref (ad VK)), some (.int (-(nI (x / 100)))), some (.int (nI (x % 100))), some (.int (nI (c))), some (.int 0)]) (v := nI (c)) (C.wl _ _) dJ6_getChars_ba4f3_57 rfl (by rw [show Int32.ofInt (-1) = -1 from rfl, nI_dec (k := c + 1) (by omega)]; try rfl) rfl rfl ?_
        refine v_iload (C.wl _ _) dJ6_getChars_ba4f3_60 rfl ?_
        refine j_tens C hW9 (tg4 78 rfl rfl) dJ6_getChars_ba4f3_62 (fun t56 hT56 => ?_)
        refine v_iload (C.wl _ _) dJ6_getChars_ba4f3_65 rfl ?_
        refine j_tld (k := x % 100) (v := nI (48 + x % 100 / 10)) (C.wl _ _) hT56 (by omega) (tens_v _) dJ6_getChars_ba4f3_67 ?_
        refine j_bast (k := VK) (n := n) (a := c) C hV (h7 _ hG) (hn _ hG) ⟨by omega, by omega⟩ (b_nar7 _ (by omega)) dJ6_getChars_ba4f3_68 ?_
        have hG2 := hG1.w (d := x % 100 / 10) (by omega) (by rw [show sz - 1 - c = 2 * k + 1 by omega]; exact hr2)
        refine v_goto (tgt := 22) (C.wl _ _) dJ6_getChars_ba4f3_69 (by decide) ?_
        have hx2 : x / 100 = w / 10 ^ (2 * (k + 1)) := by rw [show 2 * (k + 1) = 2 * k + 2 by omega, Nat.pow_add, ← Nat.div_div_eq_div_mul, hx]
        have hcc : c = sz - 2 * (k + 1) := by omega
        have key := ih (k + 1) _ (some (.int (-(nI (x / 100))))) (some (.int (nI (x % 100)))) (Or.inr ⟨_, rfl⟩) (by omega) (by omega) (by omega) (by rw [← hcc]; exact hG2)
        rw [← hx2, ← hcc] at key
        exact key
  refine v_iload_n (C.wl _ _) dJ6_getChars_ba4f3_0 rfl rfl ?_
  refine v_istore (lo' := [some (.int (nI w)), some (.int (nI sz)), some (.ref (ad VK)), none, none, some (.int (nI sz)), none]) (C.wl _ _) dJ6_getChars_ba4f3_1 (Nat.le_of_ble_eq_true rfl) rfl rfl ?_
  refine v_iload_n (C.wl _ _) dJ6_getChars_ba4f3_3 rfl rfl ?_
  refine v_if_ge (tgt := 11) (C.wl _ _) dJ6_getChars_ba4f3_4 (by decide) (fun h4 => ?_) (fun h4 => ?_)
  · refine v_iconst (C.wl _ _) dJ6_getChars_ba4f3_11 rfl ?_
    refine v_istore (lo' := [some (.int (nI w)), some (.int (nI sz)), some (.ref (ad VK)), none, none, some (.int (nI sz)), some (.int 0)]) (C.wl _ _) dJ6_getChars_ba4f3_12 (Nat.le_of_ble_eq_true rfl) rfl rfl ?_
    refine v_iload (C.wl _ _) dJ6_getChars_ba4f3_14 rfl ?_
    refine v_if_ne (tgt := 22) (C.wl _ _) dJ6_getChars_ba4f3_16 (by decide) (fun h => absurd rfl h) (fun _ => ?_)
    refine v_iload_n (C.wl _ _) dJ6_getChars_ba4f3_19 rfl rfl ?_
    refine v_ineg (C.wl _ _) dJ6_getChars_ba4f3_20 ?_
    refine v_istore_n (lo' := [some (.int (-(nI w))), some (.int (nI sz)), some (.ref (ad VK)), none, none, some (.int (nI sz)), some (.int 0)]) (C.wl _ _) dJ6_getChars_ba4f3_21 rfl (Nat.le_of_ble_eq_true rfl) rfl rfl ?_
    have key := loop 9 0 m none none (Or.inl rfl) (by decide) (by decide) (by have := szw_1 w; omega) ⟨fun _ _ => rfl, fun _ _ => rfl, fun j j1 j2 => by omega⟩
    rw [show w / 10 ^ (2 * 0) = w by simp, show sz - 2 * 0 = sz by omega] at key
    exact key
  · exact absurd (by rw [i_le, nI_toInt (by omega)]; show (0 : Int) ≤ _; omega) h4
