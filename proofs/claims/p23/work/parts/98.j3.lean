/-! THE JDK'S TEXTS in the law's world: a letter of a text -/
section LJ2
variable {P : Pm} {R : Room} {Z : Zc} {cc : ByteArray} {own : String} {lo : Lo} {pc : Nat} {rest st : List Value} {g : MG} {cs sl : Nat} {ad : Nat → Nat} {m : MG} {T : Nat}
theorem j_fmt (C : Cx P Z cc own) (hW9 : CxW P Z) {index : Nat} (hlink : Cond.fieldLink own index "jdk/internal/util/Preconditions" "SIOOBE_FORMATTER" "Ljava/util/function/BiFunction;" ∈ wsG) (hdg : decode cc pc = .ok (.getstatic index, 3)) (kk : ∀ o : Option Nat, V P R (Z.wl ad m) lo (pc + 3) (va_rf o :: st) g cs sl) : V P R (Z.wl ad m) lo pc st g cs sl := by
  obtain ⟨p, l, e, s, mm, args, below, meth, c, Q, nL⟩ := P
  have hW9 : StrA s ∧ StrL s ∧ StaL Z.2.2.2.2 s s.heap := hW9
  intro ls H locs hl hw hS
  rcases hW9.2.2.2.2.2.1 with h | ⟨t, h⟩
  · exact va_gets C.1 C.2.1 h hS C.2.2.2.1 (C.2.2.2.2.1 _ hlink) (fun x h => h) hdg (kk none ls H locs hl hw hS)
  · exact va_gets C.1 C.2.1 h hS C.2.2.2.1 (C.2.2.2.2.1 _ hlink) (fun x h => h) hdg (kk (some t) ls H locs hl hw hS)
theorem v_i2c (C : Cx P Z cc own) {x v : Int32} (hdg : decode cc pc = .ok (.i2c, 1)) (hv : (x.toUInt32 % 65536).toInt32 = v) (kk : V P R Z lo (pc + 1) (.int v :: rest) g cs sl) : V P R Z lo pc (.int x :: rest) g cs sl := by
  obtain ⟨p, l, e, s, mm, args, below, meth, c, Q, nL⟩ := P
  exact fun ls H locs hl hw hS => lv_i2c C.1 C.2.1 hdg hv (kk ls H locs hl hw hS)
end LJ2
theorem l_sci (l : Launch) (Z : Zc) (ad : Nat → Nat) (m g : MG) (i n : Nat) (hi : i < n ∧ n < 1000) : LMv l yJ0_checkIndex_df160 cJ0_checkIndex_df160 2 (rmz 1 30 0 0) Z [.int (nI i), .int (nI n)] ad m g (fun ad' m' g' => ad' = ad ∧ m' = m ∧ g' = g) := by
  refine ent_lv (own := RJ0) (lo := [some (.int (nI i)), some (.int (nI n))]) (by decide) rfl (by simp [lg_sl, Value.category]) rfl (fun P hl C hW9 ret => ?_)
  refine v_iload_n (C.wl _ _) dJ0_checkIndex_df160_0 rfl rfl ?_
  refine v_iload_n (C.wl _ _) dJ0_checkIndex_df160_1 rfl rfl ?_
  refine j_fmt C hW9 (tg4 6 rfl rfl) dJ0_checkIndex_df160_2 (fun o => ?_)
  refine l_callSi (n := 3) (as := [.int (nI i), .int (nI n), va_rf o]) C hW9 (l_pci _ Z ad m g i n hi o) (gs2 (tg4 163 rfl rfl) (tg1 177 rfl rfl) (tg1 18 rfl rfl) (tg1 178 rfl rfl)) (by decide +kernel) ⟨Nat.le_of_ble_eq_true rfl, Nat.le_of_ble_eq_true rfl⟩ rfl rfl (Nat.le_of_ble_eq_true rfl) dJ0_checkIndex_df160_5 ⟨Nat.le_of_ble_eq_true rfl, Nat.le_of_ble_eq_true rfl⟩ (fun v6 ad6 m6 g6 hp6 => ?_)
  obtain ⟨rfl, rfl, rfl, rfl⟩ := hp6
  refine v_pop (C.wl _ _) dJ0_checkIndex_df160_8 rfl ?_
  exact ret _ _ _ _ _ dJ0_checkIndex_df160_9 ⟨rfl, rfl, rfl⟩
theorem b_and : ∀ b, b < 128 → nI b &&& 255 = nI b := by decide +kernel
theorem b_i2c : ∀ b, b < 128 → ((nI b).toUInt32 % 65536).toInt32 = nI b := by decide +kernel
theorem b_nar : ∀ b, b < 128 → narrow .char (.int (nI b)) = .int (nI b) := by decide +kernel
theorem l_lcharAt (l : Launch) (Z : Zc) (ad : Nat → Nat) (m g : MG) (V9 n a b : Nat) (hV : 600 ≤ V9 ∧ V9 < 1200) (h7 : m V9 100000 = 7) (hn : m V9 100001 = nI n) (ha : a < n ∧ n < 1000) (hb : m V9 a = nI b) (hb9 : b < 128) : LMi l yJ1_charAt_3b067 cJ1_charAt_3b067 2 (some .char) (rmz 2 60 0 0) Z [.ref (ad V9), .int (nI a)] ad m g (fun r ad' m' g' => r = nI b ∧ ad' = ad ∧ m' = m ∧ g' = g) := by
  refine ent_ln (own := RJ1) (lo := [some (.ref (ad V9)), some (.int (nI a))]) (by decide) rfl (by simp [lg_sl, Value.category]) rfl (fun P hl C hW9 ret => ?_)
  refine v_iload_n (C.wl _ _) dJ1_charAt_3b067_0 rfl rfl ?_
  refine v_aload_n (C.wl _ _) dJ1_charAt_3b067_1 rfl rfl ?_
  refine j_len (k := V9) C hV h7 hn ha.2 dJ1_charAt_3b067_2 ?_
  refine l_callSv (n := 2) (as := [.int (nI a), .int (nI n)]) C hW9 (l_sci _ Z ad m g a n ha) (gs2 (tg4 160 rfl rfl) (tg4 161 rfl rfl) (tg1 23 rfl rfl) (tg4 162 rfl rfl)) (by decide +kernel) ⟨Nat.le_of_ble_eq_true rfl, Nat.le_of_ble_eq_true rfl⟩ rfl rfl (Nat.le_of_ble_eq_true rfl) dJ1_charAt_3b067_3 ⟨Nat.le_of_ble_eq_true rfl, Nat.le_of_ble_eq_true rfl⟩ (fun ad6 m6 g6 hp6 => ?_)
  obtain ⟨rfl, rfl, rfl⟩ := hp6
  refine v_aload_n (C.wl _ _) dJ1_charAt_3b067_6 rfl rfl ?_
  refine v_iload_n (C.wl _ _) dJ1_charAt_3b067_7 rfl rfl ?_
  refine j_bald (k := V9) C hV h7 hn ha dJ1_charAt_3b067_8 ?_
  refine v_sipush (v := 255) (C.wl _ _) dJ1_charAt_3b067_9 rfl ?_
  refine v_iand (C.wl _ _) dJ1_charAt_3b067_12 ?_
  refine v_topi (y := nI b) (by rw [hb]; exact b_and b hb9) ?_
  refine v_i2c (C.wl _ _) dJ1_charAt_3b067_13 (b_i2c b hb9) ?_
  exact ret _ _ _ _ _ _ dJ1_charAt_3b067_14 (b_nar b hb9) ⟨rfl, rfl, rfl, rfl⟩
theorem l_scharAt (l : Launch) (Z : Zc) (ad : Nat → Nat) (m g : MG) (K V9 n a b : Nat) (hK : 600 ≤ K ∧ K < 1200) (h8 : m K 100000 = 8) (hc : m K 1 = 0) (h0 : m K 0 = nI V9) (hV : 600 ≤ V9 ∧ V9 < 1200) (h7 : m V9 100000 = 7) (hn : m V9 100001 = nI n) (ha : a < n ∧ n < 1000) (hb : m V9 a = nI b) (hb9 : b < 128) : LMi l yJ0_charAt_5068e cJ0_charAt_5068e 2 (some .char) (rmz 3 90 0 0) Z [.ref (ad K), .int (nI a)] ad m g (fun r ad' m' g' => r = nI b ∧ ad' = ad ∧ m' = m ∧ g' = g) := by
  refine ent_ln (own := RJ0) (lo := [some (.ref (ad K)), some (.int (nI a))]) (by decide) rfl (by simp [lg_sl, Value.category]) rfl (fun P hl C hW9 ret => ?_)
  refine v_aload_n (C.wl _ _) dJ0_charAt_5068e_0 rfl rfl ?_
  refine l_callVi (n := 0) (as := []) C hW9 (l_sLatin1 _ Z ad m g K hK h8 hc) (gv (tg4 153 rfl rfl) (tg4 154 rfl rfl) (tg4 155 rfl rfl) (tg1 23 rfl rfl) (tg4 156 rfl rfl)) (by decide +kernel) ⟨Nat.le_of_ble_eq_true rfl, Nat.le_of_ble_eq_true rfl⟩ rfl hK (cW_8 h8) rfl rfl (Nat.le_of_ble_eq_true rfl) dJ0_charAt_5068e_1 ⟨Nat.le_of_ble_eq_true rfl, Nat.le_of_ble_eq_true rfl⟩ (fun v6 ad6 m6 g6 hp6 => ?_)
  obtain ⟨rfl, rfl, rfl, rfl⟩ := hp6
  refine v_if_eq (tgt := 16) (C.wl _ _) dJ0_charAt_5068e_4 (by decide) (fun h4 => ?_) (fun h4 => ?_)
  · exact absurd h4 (by decide)
  · refine v_aload_n (C.wl _ _) dJ0_charAt_5068e_7 rfl rfl ?_
    refine j_get (k := K) C inGS (ci := 7) rfl 0 (by decide) (tg4 137 rfl rfl) hK (cW_8 h8) (sb_rf h0 hV) dJ0_charAt_5068e_8 ?_
    refine v_iload_n (C.wl _ _) dJ0_charAt_5068e_11 rfl rfl ?_
    refine l_callSi (n := 2) (as := [.ref (ad6 V9), .int (nI a)]) C hW9 (l_lcharAt _ Z ad6 m6 g6 V9 n a b hV h7 hn ha hb hb9) (gs2 (tg4 157 rfl rfl) (tg4 158 rfl rfl) (tg1 25 rfl rfl) (tg4 159 rfl rfl)) (by decide +kernel) ⟨Nat.le_of_ble_eq_true rfl, Nat.le_of_ble_eq_true rfl⟩ rfl rfl (Nat.le_of_ble_eq_true rfl) dJ0_charAt_5068e_12 ⟨Nat.le_of_ble_eq_true rfl, Nat.le_of_ble_eq_true rfl⟩ (fun v9 ad9 m9 g9 hp9 => ?_)
    obtain ⟨rfl, rfl, rfl, rfl⟩ := hp9
    exact ret _ _ _ _ _ _ dJ0_charAt_5068e_15 (b_nar b hb9) ⟨rfl, rfl, rfl, rfl⟩
