/-! THE JDK'S TEXTS in the law's world: is it Latin-1; is a place within -/
theorem l_sLatin1 (l : Launch) (Z : Zc) (ad : Nat → Nat) (m g : MG) (K : Nat) (hK : 600 ≤ K ∧ K < 1200) (h8 : m K 100000 = 8) (hc : m K 1 = 0) : LMi l yJ0_isLatin1_aae02 cJ0_isLatin1_aae02 1 (some .boolean) (rmz 0 0 0 0) Z [.ref (ad K)] ad m g (fun r ad' m' g' => r = 1 ∧ ad' = ad ∧ m' = m ∧ g' = g) := by
  refine ent_ln (own := RJ0) (lo := [some (.ref (ad K))]) (by decide) rfl (by simp [lg_sl, Value.category]) rfl (fun P hl C hW9 ret => ?_)
  refine j_compact C hW9 (tg4 28 rfl rfl) dJ0_isLatin1_aae02_0 ?_
  refine v_if_eq (tgt := 17) (C.wl _ _) dJ0_isLatin1_aae02_3 (by decide) (fun h3 => ?_) (fun h3 => ?_)
  · exact absurd h3 (by decide)
  · refine v_aload_n (C.wl _ _) dJ0_isLatin1_aae02_6 rfl rfl ?_
    refine j_get (k := K) C inGS (ci := 7) rfl 1 (by decide) (tg4 138 rfl rfl) hK (cW_8 h8) rfl dJ0_isLatin1_aae02_7 ?_
    refine v_topi (y := 0) hc ?_
    refine v_if_ne (tgt := 17) (C.wl _ _) dJ0_isLatin1_aae02_10 (by decide) (fun h10 => ?_) (fun h10 => ?_)
    · exact absurd rfl h10
    · refine v_iconst (C.wl _ _) dJ0_isLatin1_aae02_13 rfl ?_
      refine v_goto (tgt := 18) (C.wl _ _) dJ0_isLatin1_aae02_14 (by decide) ?_
      exact ret _ _ _ _ _ _ dJ0_isLatin1_aae02_18 (by decide) ⟨rfl, rfl, rfl, rfl⟩
theorem l_pci (l : Launch) (Z : Zc) (ad : Nat → Nat) (m g : MG) (i n : Nat) (hi : i < n ∧ n < 1000) (o : Option Nat) : LMi l yJ3_checkIndex_8e157 cJ3_checkIndex_8e157 3 (some .int) (rmz 0 0 0 0) Z [.int (nI i), .int (nI n), va_rf o] ad m g (fun r ad' m' g' => r = nI i ∧ ad' = ad ∧ m' = m ∧ g' = g) := by
  refine ent_li (own := RJ3) (lo := [some (.int (nI i)), some (.int (nI n)), some (va_rf o)]) (by decide) rfl (by cases o <;> simp [lg_sl, Value.category, va_rf]) (by cases o <;> rfl) (fun P hl C hW9 ret => ?_)
  refine v_iload_n (C.wl _ _) dJ3_checkIndex_8e157_0 rfl rfl ?_
  refine v_if_lt (tgt := 9) (C.wl _ _) dJ3_checkIndex_8e157_1 (by decide) (fun h1 => ?_) (fun h1 => ?_)
  · exact absurd h1 (nI_pos (by omega))
  · refine v_iload_n (C.wl _ _) dJ3_checkIndex_8e157_4 rfl rfl ?_
    refine v_iload_n (C.wl _ _) dJ3_checkIndex_8e157_5 rfl rfl ?_
    refine v_icmp_lt (tgt := 16) (C.wl _ _) dJ3_checkIndex_8e157_6 (by decide) (fun h6 => ?_) (fun h6 => ?_)
    · refine v_iload_n (C.wl _ _) dJ3_checkIndex_8e157_16 rfl rfl ?_
      exact ret _ _ _ _ _ _ dJ3_checkIndex_8e157_17 ⟨rfl, rfl, rfl, rfl⟩
    · exact absurd (by rw [i_lt, nI_toInt (by omega), nI_toInt (by omega)]; omega) h6
