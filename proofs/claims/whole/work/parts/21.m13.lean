/-! THE REFERENCE: digest -/
def mixL (d : Int64) (x : Int32) : Int64 := d * 31 + x.toInt64
def mixN (f : Nat → Int32) : Nat → Int64 → Int64
  | 0, d => d
  | n + 1, d => mixL (mixN f n d) (f n)
def mixB (g : MG) (f : Nat) : Nat → Int64 → Int64
  | 0, d => d
  | k + 1, d => mixN (fun w => blkO g (10 * f + k) (nI w)) 3 (mixB g f k d)
def mixFs (g : MG) : Nat → Int64 → Int64
  | 0, d => d
  | f + 1, d => mixB g f 10 (mixL (mixFs g f d) (g 5 f))
def mixLs (g : MG) (p : Nat) : Nat → Int64 → Int64
  | 0, d => d
  | k + 1, d => mixN (fun w => ltoO g p k (nI w)) 4 (mixLs g p k d)
def mixPs (g : MG) : Nat → Int64 → Int64
  | 0, d => d
  | p + 1, d => mixLs g p (nlO g p) (mixN (fun w => toldO g p w) 8 (mixPs g p d))
def dgO (g : MG) : Int64 := mixPs g (npO g) (mixFs g (nfO g) (mixN (g 9) 10 (mixN (ctO g) 7 1721)))
set_option maxRecDepth 100000 in
theorem c_digest (l : Launch) (Z : Zc) (g0 : MG) (hI0 : IvM g0) : ML l yX4_digest cX4_digest 7 (rmz 4 82 0 0) Z [.ref (Z.ad 0)] g0 (fun r g' => r = dgO (wr g0 0 0 0) ∧ g' = wr g0 0 0 0) := by
  refine ent_l (own := RX4) (lo := [some (.ref (Z.ad 0)), none, none, none, none, none, none]) (by decide) rfl (by simp [lg_sl, Value.category]) rfl (fun P hl C ret => ?_)
  obtain ⟨g, hg⟩ : ∃ g, g = wr g0 0 0 0 := ⟨_, rfl⟩
  rw [← hg] at ret
  have hI : IvM g := by rw [hg]; exact IvM_eq hI0 rfl rfl (fun k h1 h2 => wr_row _ _ _ _ (by omega))
  obtain ⟨⟨nf, hf5, hnf⟩, ⟨np, hp6, hnp⟩, -⟩ := id hI
  have enf : nfO g = nf := by unfold nfO; rw [hnf]; exact iz_nI (by omega)
  have enp : npO g = np := by unfold npO; rw [hnp]; exact iz_nI (by omega)
  have loopE : ∀ (n : Nat) (k f c : Nat) (d : Int64) (v6 : Option Value), 3 - k < n → k ≤ 3 → f < 5 → c < 10 → (V P (rmz 4 82 0 0) Z [some (.ref (Z.ad 0)), some (.long (mixN (fun w => blkO g (10 * f + c) (nI w)) 3 d)), none, some (.int (nI f)), some (.int (nI c)), some (.int (nI 3)), v6] 147 [] g 0 0) → V P (rmz 4 82 0 0) Z [some (.ref (Z.ad 0)), some (.long (mixN (fun w => blkO g (10 * f + c) (nI w)) k d)), none, some (.int (nI f)), some (.int (nI c)), some (.int (nI k)), v6] 114 [] g 0 0 := by
    intro n
    induction n with
    | zero => intro k f c d v6 hn; exact absurd hn (Nat.not_lt_zero _)
    | succ n ih =>
      intro k f c d v6 hn hk hf hc K
      refine v_iload C dX4_digest_114 rfl ?_
      refine v_iconst (v := 2) C dX4_digest_116 (by decide) ?_
      refine v_icmp_gt (tgt := 147) C dX4_digest_117 (by decide) (fun h117 => ?_) (fun h117 => ?_)
      · have hkn : k = 3 := Nat.le_antisymm hk (by have := (nI_ltI (a := 2) (by decide) (by omega)).mp h117; omega)
        subst hkn
        exact K
      · have hkn : k < 3 := Nat.lt_of_not_le fun q => h117 ((nI_ltI (a := 2) (by decide) (by omega)).mpr (by omega))
        refine v_lload_n C dX4_digest_120 rfl rfl ?_
        refine v_ldc2 (v := 31) C (tg4 220 rfl rfl) dX4_digest_121 ?_
        refine v_lmul C dX4_digest_124 ?_
        refine v_aload_n C dX4_digest_125 rfl rfl ?_
        refine v_bipush (v := 10) C dX4_digest_126 (by decide) ?_
        refine v_iload_n C dX4_digest_128 rfl rfl ?_
        refine v_imul C dX4_digest_129 ?_
        refine v_topi (y := nI (10 * f)) (by rw [show (10 : Int32) = nI 10 from rfl, nI_mul]) ?_
        refine v_iload C dX4_digest_130 rfl ?_
        refine v_iadd C dX4_digest_132 ?_
        refine v_topi (y := nI (10 * f + c)) (nI_add _ _) ?_
        refine v_iload C dX4_digest_133 rfl ?_
        refine v_callVi (n := 2) (as := [.int (nI (10 * f + c)), .int (nI k)]) C (c_blockTold _ Z (10 * f + c) (nI k) g (by omega)) (gv (tg4 152 rfl rfl) (tg4 154 rfl rfl) (tg0 32 rfl rfl) (tg1 6 rfl rfl) (tg4 155 rfl rfl)) (by decide +kernel) ⟨Nat.le_of_ble_eq_true rfl, Nat.le_of_ble_eq_true rfl⟩ rfl cx_M rfl rfl (Nat.le_of_ble_eq_true rfl) dX4_digest_135 ⟨Nat.le_of_ble_eq_true rfl, Nat.le_of_ble_eq_true rfl⟩ (fun r135 g135 hp135 => ?_)
        obtain ⟨rfl, hg135⟩ := hp135
        rw [hg135]
        refine v_i2l C dX4_digest_138 ?_
        refine v_ladd C dX4_digest_139 ?_
        refine v_topl (y := mixN (fun w => blkO g (10 * f + c) (nI w)) (k + 1) d) rfl ?_
        refine v_lstore_n (lo' := [some (.ref (Z.ad 0)), some (.long (mixN (fun w => blkO g (10 * f + c) (nI w)) (k + 1) d)), none, some (.int (nI f)), some (.int (nI c)), some (.int (nI k)), v6]) C dX4_digest_140 rfl (Nat.le_of_ble_eq_true rfl) rfl rfl ?_
        refine v_iinc (lo' := [some (.ref (Z.ad 0)), some (.long (mixN (fun w => blkO g (10 * f + c) (nI w)) (k + 1) d)), none, some (.int (nI f)), some (.int (nI c)), some (.int ((nI k) + 1)), v6]) C dX4_digest_141 rfl rfl rfl rfl ?_
        refine v_lo (lo' := [some (.ref (Z.ad 0)), some (.long (mixN (fun w => blkO g (10 * f + c) (nI w)) (k + 1) d)), none, some (.int (nI f)), some (.int (nI c)), some (.int (nI (k + 1))), v6]) (by rw [← nI_1 k]) ?_
        refine v_goto (tgt := 114) C dX4_digest_144 (by decide) ?_
        exact ih (k + 1) f c d v6 (by omega) (by omega) hf hc K
  have loopD : ∀ (n : Nat) (c f : Nat) (d : Int64) (v5 v6 : Option Value), 10 - c < n → c ≤ 10 → f < 5 → (∀ v5, V P (rmz 4 82 0 0) Z [some (.ref (Z.ad 0)), some (.long (mixB g f 10 d)), none, some (.int (nI f)), some (.int (nI 10)), v5, v6] 153 [] g 0 0) → V P (rmz 4 82 0 0) Z [some (.ref (Z.ad 0)), some (.long (mixB g f c d)), none, some (.int (nI f)), some (.int (nI c)), v5, v6] 104 [] g 0 0 := by
    intro n
    induction n with
    | zero => intro c f d v5 v6 hn; exact absurd hn (Nat.not_lt_zero _)
    | succ n ih =>
      intro c f d v5 v6 hn hk hf K
      refine v_iload C dX4_digest_104 rfl ?_
      refine v_bipush (v := 10) C dX4_digest_106 (by decide) ?_
      refine v_icmp_ge (tgt := 153) C dX4_digest_108 (by decide) (fun h108 => ?_) (fun h108 => ?_)
      · have hkn : c = 10 := Nat.le_antisymm hk ((nI_leI (a := 10) (by omega) (by omega)).mp h108)
        subst hkn
        exact K _
      · have hkn : c < 10 := Nat.lt_of_not_le fun q => h108 ((nI_leI (a := 10) (by omega) (by omega)).mpr q)
        refine v_iconst (v := 0) C dX4_digest_111 (by decide) ?_
        refine v_istore (lo' := [some (.ref (Z.ad 0)), some (.long (mixB g f c d)), none, some (.int (nI f)), some (.int (nI c)), some (.int 0), v6]) C dX4_digest_112 (Nat.le_of_ble_eq_true rfl) rfl rfl ?_
        refine loopE 4 0 f c (mixB g f c d) v6 (by omega) (by omega) hf hkn ?_
        refine v_iinc (lo' := [some (.ref (Z.ad 0)), some (.long (mixN (fun w => blkO g (10 * f + c) (nI w)) 3 (mixB g f c d))), none, some (.int (nI f)), some (.int ((nI c) + 1)), some (.int (nI 3)), v6]) C dX4_digest_147 rfl rfl rfl rfl ?_
        refine v_lo (lo' := [some (.ref (Z.ad 0)), some (.long (mixN (fun w => blkO g (10 * f + c) (nI w)) 3 (mixB g f c d))), none, some (.int (nI f)), some (.int (nI (c + 1))), some (.int (nI 3)), v6]) (by rw [← nI_1 c]) ?_
        refine v_goto (tgt := 104) C dX4_digest_150 (by decide) ?_
        refine v_lo (lo' := [some (.ref (Z.ad 0)), some (.long (mixB g f (c + 1) d)), none, some (.int (nI f)), some (.int (nI (c + 1))), some (.int (nI 3)), v6]) rfl ?_
        exact ih (c + 1) f d _ v6 (by omega) (by omega) hf K
  have loopC : ∀ (n : Nat) (f : Nat) (v4 v5 v6 : Option Value), nf - f < n → f ≤ nf → (∀ v4 v5 v6, V P (rmz 4 82 0 0) Z [some (.ref (Z.ad 0)), some (.long (mixFs g nf (mixN (g 9) 10 (mixN (ctO g) 7 1721)))), none, some (.int (nI nf)), v4, v5, v6] 159 [] g 0 0) → V P (rmz 4 82 0 0) Z [some (.ref (Z.ad 0)), some (.long (mixFs g f (mixN (g 9) 10 (mixN (ctO g) 7 1721)))), none, some (.int (nI f)), v4, v5, v6] 79 [] g 0 0 := by
    intro n
    induction n with
    | zero => intro f v4 v5 v6 hn; exact absurd hn (Nat.not_lt_zero _)
    | succ n ih =>
      intro f v4 v5 v6 hn hk K
      refine v_iload_n C dX4_digest_79 rfl rfl ?_
      refine v_aload_n C dX4_digest_80 rfl rfl ?_
      refine v_get C inG4 rfl 1 (by decide) (tg3 196 rfl rfl) rfl cx_M rfl dX4_digest_81 ?_
      refine v_topi (y := nI nf) hnf ?_
      refine v_icmp_ge (tgt := 159) C dX4_digest_84 (by decide) (fun h84 => ?_) (fun h84 => ?_)
      · have hkn : f = nf := Nat.le_antisymm hk ((nI_leI (by omega) (by omega)).mp h84)
        rw [hkn]
        exact K _ _ _
      · have hkn : f < nf := Nat.lt_of_not_le fun q => h84 ((nI_leI (by omega) (by omega)).mpr q)
        refine v_lload_n C dX4_digest_87 rfl rfl ?_
        refine v_ldc2 (v := 31) C (tg4 220 rfl rfl) dX4_digest_88 ?_
        refine v_lmul C dX4_digest_91 ?_
        refine v_aload_n C dX4_digest_92 rfl rfl ?_
        refine v_get C inG4 rfl 5 (by decide) (tg3 200 rfl rfl) rfl cx_M rfl dX4_digest_93 ?_
        refine v_iload_n C dX4_digest_96 rfl rfl ?_
        refine v_ialdN (a := f) C cxA5 (by omega) dX4_digest_97 ?_
        refine v_i2l C dX4_digest_98 ?_
        refine v_ladd C dX4_digest_99 ?_
        refine v_topl (y := mixL (mixFs g f (mixN (g 9) 10 (mixN (ctO g) 7 1721))) (g 5 f)) rfl ?_
        refine v_lstore_n (lo' := [some (.ref (Z.ad 0)), some (.long (mixL (mixFs g f (mixN (g 9) 10 (mixN (ctO g) 7 1721))) (g 5 f))), none, some (.int (nI f)), v4, v5, v6]) C dX4_digest_100 rfl (Nat.le_of_ble_eq_true rfl) rfl rfl ?_
        refine v_iconst (v := 0) C dX4_digest_101 (by decide) ?_
        refine v_istore (lo' := [some (.ref (Z.ad 0)), some (.long (mixL (mixFs g f (mixN (g 9) 10 (mixN (ctO g) 7 1721))) (g 5 f))), none, some (.int (nI f)), some (.int 0), v5, v6]) C dX4_digest_102 (Nat.le_of_ble_eq_true rfl) rfl rfl ?_
        refine loopD 11 0 f (mixL (mixFs g f (mixN (g 9) 10 (mixN (ctO g) 7 1721))) (g 5 f)) v5 v6 (by omega) (by omega) (by omega) (fun v5 => ?_)
        refine v_iinc (lo' := [some (.ref (Z.ad 0)), some (.long (mixB g f 10 (mixL (mixFs g f (mixN (g 9) 10 (mixN (ctO g) 7 1721))) (g 5 f)))), none, some (.int ((nI f) + 1)), some (.int (nI 10)), v5, v6]) C dX4_digest_153 rfl rfl rfl rfl ?_
        refine v_lo (lo' := [some (.ref (Z.ad 0)), some (.long (mixB g f 10 (mixL (mixFs g f (mixN (g 9) 10 (mixN (ctO g) 7 1721))) (g 5 f)))), none, some (.int (nI (f + 1))), some (.int (nI 10)), v5, v6]) (by rw [← nI_1 f]) ?_
        refine v_goto (tgt := 79) C dX4_digest_156 (by decide) ?_
        refine v_lo (lo' := [some (.ref (Z.ad 0)), some (.long (mixFs g (f + 1) (mixN (g 9) 10 (mixN (ctO g) 7 1721)))), none, some (.int (nI (f + 1))), some (.int (nI 10)), v5, v6]) rfl ?_
        exact ih (f + 1) _ v5 v6 (by omega) (by omega) K
  have loopI : ∀ (n : Nat) (k p q : Nat) (d : Int64) (v6 : Option Value), 4 - k < n → k ≤ 4 → p < 6 → q < nlO g p → (V P (rmz 4 82 0 0) Z [some (.ref (Z.ad 0)), some (.long (mixN (fun w => ltoO g p q (nI w)) 4 d)), none, some (.int (nI p)), some (.int (nI q)), some (.int (nI 4)), v6] 246 [] g 0 0) → V P (rmz 4 82 0 0) Z [some (.ref (Z.ad 0)), some (.long (mixN (fun w => ltoO g p q (nI w)) k d)), none, some (.int (nI p)), some (.int (nI q)), some (.int (nI k)), v6] 217 [] g 0 0 := by
    intro n
    induction n with
    | zero => intro k p q d v6 hn; exact absurd hn (Nat.not_lt_zero _)
    | succ n ih =>
      intro k p q d v6 hn hk hp hq K
      refine v_iload C dX4_digest_217 rfl ?_
      refine v_iconst (v := 3) C dX4_digest_219 (by decide) ?_
      refine v_icmp_gt (tgt := 246) C dX4_digest_220 (by decide) (fun h220 => ?_) (fun h220 => ?_)
      · have hkn : k = 4 := Nat.le_antisymm hk (by have := (nI_ltI (a := 3) (by decide) (by omega)).mp h220; omega)
        subst hkn
        exact K
      · have hkn : k < 4 := Nat.lt_of_not_le fun q => h220 ((nI_ltI (a := 3) (by decide) (by omega)).mpr (by omega))
        refine v_lload_n C dX4_digest_223 rfl rfl ?_
        refine v_ldc2 (v := 31) C (tg4 220 rfl rfl) dX4_digest_224 ?_
        refine v_lmul C dX4_digest_227 ?_
        refine v_aload_n C dX4_digest_228 rfl rfl ?_
        refine v_iload_n C dX4_digest_229 rfl rfl ?_
        refine v_iload C dX4_digest_230 rfl ?_
        refine v_iload C dX4_digest_232 rfl ?_
        refine v_callVi (n := 3) (as := [.int (nI p), .int (nI q), .int (nI k)]) C (c_lineTold _ Z p q (nI k) g hI hp hq) (gv (tg4 172 rfl rfl) (tg4 174 rfl rfl) (tg0 35 rfl rfl) (tg1 6 rfl rfl) (tg4 175 rfl rfl)) (by decide +kernel) ⟨Nat.le_of_ble_eq_true rfl, Nat.le_of_ble_eq_true rfl⟩ rfl cx_M rfl rfl (Nat.le_of_ble_eq_true rfl) dX4_digest_234 ⟨Nat.le_of_ble_eq_true rfl, Nat.le_of_ble_eq_true rfl⟩ (fun r234 g234 hp234 => ?_)
        obtain ⟨rfl, hg234⟩ := hp234
        rw [hg234]
        refine v_i2l C dX4_digest_237 ?_
        refine v_ladd C dX4_digest_238 ?_
        refine v_topl (y := mixN (fun w => ltoO g p q (nI w)) (k + 1) d) rfl ?_
        refine v_lstore_n (lo' := [some (.ref (Z.ad 0)), some (.long (mixN (fun w => ltoO g p q (nI w)) (k + 1) d)), none, some (.int (nI p)), some (.int (nI q)), some (.int (nI k)), v6]) C dX4_digest_239 rfl (Nat.le_of_ble_eq_true rfl) rfl rfl ?_
        refine v_iinc (lo' := [some (.ref (Z.ad 0)), some (.long (mixN (fun w => ltoO g p q (nI w)) (k + 1) d)), none, some (.int (nI p)), some (.int (nI q)), some (.int ((nI k) + 1)), v6]) C dX4_digest_240 rfl rfl rfl rfl ?_
        refine v_lo (lo' := [some (.ref (Z.ad 0)), some (.long (mixN (fun w => ltoO g p q (nI w)) (k + 1) d)), none, some (.int (nI p)), some (.int (nI q)), some (.int (nI (k + 1))), v6]) (by rw [← nI_1 k]) ?_
        refine v_goto (tgt := 217) C dX4_digest_243 (by decide) ?_
        exact ih (k + 1) p q d v6 (by omega) (by omega) hp hq K
  have loopH : ∀ (n : Nat) (q p : Nat) (d : Int64) (v5 v6 : Option Value), nlO g p - q < n → q ≤ nlO g p → p < 6 → (∀ v4 v5, V P (rmz 4 82 0 0) Z [some (.ref (Z.ad 0)), some (.long (mixLs g p (nlO g p) d)), none, some (.int (nI p)), v4, v5, v6] 252 [] g 0 0) → V P (rmz 4 82 0 0) Z [some (.ref (Z.ad 0)), some (.long (mixLs g p q d)), none, some (.int (nI p)), some (.int (nI q)), v5, v6] 203 [] g 0 0 := by
    intro n
    induction n with
    | zero => intro q p d v5 v6 hn; exact absurd hn (Nat.not_lt_zero _)
    | succ n ih =>
      intro q p d v5 v6 hn hk hp K
      have hl := IvM_nl hI hp
      refine v_iload C dX4_digest_203 rfl ?_
      refine v_aload_n C dX4_digest_205 rfl rfl ?_
      refine v_get C inG4 rfl 14 (by decide) (tg3 209 rfl rfl) rfl cx_M rfl dX4_digest_206 ?_
      refine v_iload_n C dX4_digest_209 rfl rfl ?_
      refine v_ialdN (a := p) C cxA14 ⟨hp, by decide⟩ dX4_digest_210 ?_
      refine v_topi (y := nI (nlO g p)) hl.1 ?_
      refine v_icmp_ge (tgt := 252) C dX4_digest_211 (by decide) (fun h211 => ?_) (fun h211 => ?_)
      · have hkn : q = nlO g p := Nat.le_antisymm hk ((nI_leI (by omega) (by omega)).mp h211)
        subst hkn
        exact K _ _
      · have hkn : q < nlO g p := Nat.lt_of_not_le fun z => h211 ((nI_leI (by omega) (by omega)).mpr z)
        refine v_iconst (v := 0) C dX4_digest_214 (by decide) ?_
        refine v_istore (lo' := [some (.ref (Z.ad 0)), some (.long (mixLs g p q d)), none, some (.int (nI p)), some (.int (nI q)), some (.int 0), v6]) C dX4_digest_215 (Nat.le_of_ble_eq_true rfl) rfl rfl ?_
        refine loopI 5 0 p q (mixLs g p q d) v6 (by omega) (by omega) hp hkn ?_
        refine v_iinc (lo' := [some (.ref (Z.ad 0)), some (.long (mixN (fun w => ltoO g p q (nI w)) 4 (mixLs g p q d))), none, some (.int (nI p)), some (.int ((nI q) + 1)), some (.int (nI 4)), v6]) C dX4_digest_246 rfl rfl rfl rfl ?_
        refine v_lo (lo' := [some (.ref (Z.ad 0)), some (.long (mixN (fun w => ltoO g p q (nI w)) 4 (mixLs g p q d))), none, some (.int (nI p)), some (.int (nI (q + 1))), some (.int (nI 4)), v6]) (by rw [← nI_1 q]) ?_
        refine v_goto (tgt := 203) C dX4_digest_249 (by decide) ?_
        refine v_lo (lo' := [some (.ref (Z.ad 0)), some (.long (mixLs g p (q + 1) d)), none, some (.int (nI p)), some (.int (nI (q + 1))), some (.int (nI 4)), v6]) rfl ?_
        exact ih (q + 1) p d _ v6 (by omega) (by omega) hp K
  have loopG : ∀ (n : Nat) (k p : Nat) (d : Int64) (v5 v6 : Option Value), 8 - k < n → k ≤ 8 → p < 6 → (V P (rmz 4 82 0 0) Z [some (.ref (Z.ad 0)), some (.long (mixN (fun w => toldO g p w) 8 d)), none, some (.int (nI p)), some (.int (nI 8)), v5, v6] 200 [] g 0 0) → V P (rmz 4 82 0 0) Z [some (.ref (Z.ad 0)), some (.long (mixN (fun w => toldO g p w) k d)), none, some (.int (nI p)), some (.int (nI k)), v5, v6] 172 [] g 0 0 := by
    intro n
    induction n with
    | zero => intro k p d v5 v6 hn; exact absurd hn (Nat.not_lt_zero _)
    | succ n ih =>
      intro k p d v5 v6 hn hk hp K
      refine v_iload C dX4_digest_172 rfl ?_
      refine v_bipush (v := 7) C dX4_digest_174 (by decide) ?_
      refine v_icmp_gt (tgt := 200) C dX4_digest_176 (by decide) (fun h176 => ?_) (fun h176 => ?_)
      · have hkn : k = 8 := Nat.le_antisymm hk (by have := (nI_ltI (a := 7) (by decide) (by omega)).mp h176; omega)
        subst hkn
        exact K
      · have hkn : k < 8 := Nat.lt_of_not_le fun q => h176 ((nI_ltI (a := 7) (by decide) (by omega)).mpr (by omega))
        refine v_lload_n C dX4_digest_179 rfl rfl ?_
        refine v_ldc2 (v := 31) C (tg4 220 rfl rfl) dX4_digest_180 ?_
        refine v_lmul C dX4_digest_183 ?_
        refine v_aload_n C dX4_digest_184 rfl rfl ?_
        refine v_iload_n C dX4_digest_185 rfl rfl ?_
        refine v_iload C dX4_digest_186 rfl ?_
        refine v_callVi (n := 2) (as := [.int (nI p), .int (nI k)]) C (c_posterTold _ Z p k g hI hp hkn) (gv (tg4 160 rfl rfl) (tg4 162 rfl rfl) (tg0 33 rfl rfl) (tg1 6 rfl rfl) (tg4 163 rfl rfl)) (by decide +kernel) ⟨Nat.le_of_ble_eq_true rfl, Nat.le_of_ble_eq_true rfl⟩ rfl cx_M rfl rfl (Nat.le_of_ble_eq_true rfl) dX4_digest_188 ⟨Nat.le_of_ble_eq_true rfl, Nat.le_of_ble_eq_true rfl⟩ (fun r188 g188 hp188 => ?_)
        obtain ⟨rfl, hg188⟩ := hp188
        rw [hg188]
        refine v_i2l C dX4_digest_191 ?_
        refine v_ladd C dX4_digest_192 ?_
        refine v_topl (y := mixN (fun w => toldO g p w) (k + 1) d) rfl ?_
        refine v_lstore_n (lo' := [some (.ref (Z.ad 0)), some (.long (mixN (fun w => toldO g p w) (k + 1) d)), none, some (.int (nI p)), some (.int (nI k)), v5, v6]) C dX4_digest_193 rfl (Nat.le_of_ble_eq_true rfl) rfl rfl ?_
        refine v_iinc (lo' := [some (.ref (Z.ad 0)), some (.long (mixN (fun w => toldO g p w) (k + 1) d)), none, some (.int (nI p)), some (.int ((nI k) + 1)), v5, v6]) C dX4_digest_194 rfl rfl rfl rfl ?_
        refine v_lo (lo' := [some (.ref (Z.ad 0)), some (.long (mixN (fun w => toldO g p w) (k + 1) d)), none, some (.int (nI p)), some (.int (nI (k + 1))), v5, v6]) (by rw [← nI_1 k]) ?_
        refine v_goto (tgt := 172) C dX4_digest_197 (by decide) ?_
        exact ih (k + 1) p d v5 v6 (by omega) (by omega) hp K
  have loopF : ∀ (n : Nat) (p : Nat) (v4 v5 v6 : Option Value), np - p < n → p ≤ np → V P (rmz 4 82 0 0) Z [some (.ref (Z.ad 0)), some (.long (mixPs g p (mixFs g nf (mixN (g 9) 10 (mixN (ctO g) 7 1721))))), none, some (.int (nI p)), v4, v5, v6] 161 [] g 0 0 := by
    intro n
    induction n with
    | zero => intro p v4 v5 v6 hn; exact absurd hn (Nat.not_lt_zero _)
    | succ n ih =>
      intro p v4 v5 v6 hn hk
      refine v_iload_n C dX4_digest_161 rfl rfl ?_
      refine v_aload_n C dX4_digest_162 rfl rfl ?_
      refine v_get C inG4 rfl 2 (by decide) (tg3 197 rfl rfl) rfl cx_M rfl dX4_digest_163 ?_
      refine v_topi (y := nI np) hnp ?_
      refine v_icmp_ge (tgt := 258) C dX4_digest_166 (by decide) (fun h166 => ?_) (fun h166 => ?_)
      · have hkn : p = np := Nat.le_antisymm hk ((nI_leI (by omega) (by omega)).mp h166)
        refine v_lload_n C dX4_digest_258 rfl rfl ?_
        exact ret _ _ _ _ dX4_digest_259 ⟨by unfold dgO; rw [enf, enp, hkn], rfl⟩
      · have hkn : p < np := Nat.lt_of_not_le fun q => h166 ((nI_leI (by omega) (by omega)).mpr q)
        refine v_iconst (v := 0) C dX4_digest_169 (by decide) ?_
        refine v_istore (lo' := [some (.ref (Z.ad 0)), some (.long (mixPs g p (mixFs g nf (mixN (g 9) 10 (mixN (ctO g) 7 1721))))), none, some (.int (nI p)), some (.int 0), v5, v6]) C dX4_digest_170 (Nat.le_of_ble_eq_true rfl) rfl rfl ?_
        refine loopG 9 0 p (mixPs g p (mixFs g nf (mixN (g 9) 10 (mixN (ctO g) 7 1721)))) v5 v6 (by omega) (by omega) (by omega) ?_
        refine v_iconst (v := 0) C dX4_digest_200 (by decide) ?_
        refine v_istore (lo' := [some (.ref (Z.ad 0)), some (.long (mixN (fun w => toldO g p w) 8 (mixPs g p (mixFs g nf (mixN (g 9) 10 (mixN (ctO g) 7 1721)))))), none, some (.int (nI p)), some (.int 0), v5, v6]) C dX4_digest_201 (Nat.le_of_ble_eq_true rfl) rfl rfl ?_
        refine loopH (nlO g p + 1) 0 p (mixN (fun w => toldO g p w) 8 (mixPs g p (mixFs g nf (mixN (g 9) 10 (mixN (ctO g) 7 1721))))) v5 v6 (by omega) (by omega) (by omega) (fun v4 v5 => ?_)
        refine v_iinc (lo' := [some (.ref (Z.ad 0)), some (.long (mixLs g p (nlO g p) (mixN (fun w => toldO g p w) 8 (mixPs g p (mixFs g nf (mixN (g 9) 10 (mixN (ctO g) 7 1721))))))), none, some (.int ((nI p) + 1)), v4, v5, v6]) C dX4_digest_252 rfl rfl rfl rfl ?_
        refine v_lo (lo' := [some (.ref (Z.ad 0)), some (.long (mixLs g p (nlO g p) (mixN (fun w => toldO g p w) 8 (mixPs g p (mixFs g nf (mixN (g 9) 10 (mixN (ctO g) 7 1721))))))), none, some (.int (nI (p + 1))), v4, v5, v6]) (by rw [← nI_1 p]) ?_
        refine v_goto (tgt := 161) C dX4_digest_255 (by decide) ?_
        refine v_lo (lo' := [some (.ref (Z.ad 0)), some (.long (mixPs g (p + 1) (mixFs g nf (mixN (g 9) 10 (mixN (ctO g) 7 1721))))), none, some (.int (nI (p + 1))), v4, v5, v6]) rfl ?_
        exact ih (p + 1) v4 v5 v6 (by omega) (by omega)
  have loopB : ∀ (n : Nat) (k : Nat) (v6 : Option Value), 10 - k < n → k ≤ 10 → V P (rmz 4 82 0 0) Z [some (.ref (Z.ad 0)), some (.long (mixN (g 9) k (mixN (ctO g) 7 1721))), none, some (.ref (Z.ad 9)), some (.int (nI 10)), some (.int (nI k)), v6] 48 [] g 0 0 := by
    intro n
    induction n with
    | zero => intro k v6 hn; exact absurd hn (Nat.not_lt_zero _)
    | succ n ih =>
      intro k v6 hn hk
      refine v_iload C dX4_digest_48 rfl ?_
      refine v_iload C dX4_digest_50 rfl ?_
      refine v_icmp_ge (tgt := 77) C dX4_digest_52 (by decide) (fun h52 => ?_) (fun h52 => ?_)
      · have hkn : k = 10 := Nat.le_antisymm hk ((nI_leI (a := 10) (by omega) (by omega)).mp h52)
        subst hkn
        refine v_iconst (v := 0) C dX4_digest_77 (by decide) ?_
        refine v_istore_n (lo' := [some (.ref (Z.ad 0)), some (.long (mixN (g 9) 10 (mixN (ctO g) 7 1721))), none, some (.int 0), some (.int (nI 10)), some (.int (nI 10)), v6]) C dX4_digest_78 rfl (Nat.le_of_ble_eq_true rfl) rfl rfl ?_
        refine loopC (nf + 1) 0 _ _ _ (by omega) (Nat.zero_le _) (fun v4 v5 v6 => ?_)
        refine v_iconst (v := 0) C dX4_digest_159 (by decide) ?_
        refine v_istore_n (lo' := [some (.ref (Z.ad 0)), some (.long (mixFs g nf (mixN (g 9) 10 (mixN (ctO g) 7 1721)))), none, some (.int 0), v4, v5, v6]) C dX4_digest_160 rfl (Nat.le_of_ble_eq_true rfl) rfl rfl ?_
        exact loopF (np + 1) 0 _ _ _ (by omega) (Nat.zero_le _)
      · have hkn : k < 10 := Nat.lt_of_not_le fun q => h52 ((nI_leI (a := 10) (by omega) (by omega)).mpr q)
        refine v_aload_n C dX4_digest_55 rfl rfl ?_
        refine v_iload C dX4_digest_56 rfl ?_
        refine v_ialdN (a := k) C cxA9 (by omega) dX4_digest_58 ?_
        refine v_istore (lo' := [some (.ref (Z.ad 0)), some (.long (mixN (g 9) k (mixN (ctO g) 7 1721))), none, some (.ref (Z.ad 9)), some (.int (nI 10)), some (.int (nI k)), some (.int (g 9 k))]) C dX4_digest_59 (Nat.le_of_ble_eq_true rfl) rfl rfl ?_
        refine v_lload_n C dX4_digest_61 rfl rfl ?_
        refine v_ldc2 (v := 31) C (tg4 220 rfl rfl) dX4_digest_62 ?_
        refine v_lmul C dX4_digest_65 ?_
        refine v_iload C dX4_digest_66 rfl ?_
        refine v_i2l C dX4_digest_68 ?_
        refine v_ladd C dX4_digest_69 ?_
        refine v_topl (y := mixN (g 9) (k + 1) (mixN (ctO g) 7 1721)) rfl ?_
        refine v_lstore_n (lo' := [some (.ref (Z.ad 0)), some (.long (mixN (g 9) (k + 1) (mixN (ctO g) 7 1721))), none, some (.ref (Z.ad 9)), some (.int (nI 10)), some (.int (nI k)), some (.int (g 9 k))]) C dX4_digest_70 rfl (Nat.le_of_ble_eq_true rfl) rfl rfl ?_
        refine v_iinc (lo' := [some (.ref (Z.ad 0)), some (.long (mixN (g 9) (k + 1) (mixN (ctO g) 7 1721))), none, some (.ref (Z.ad 9)), some (.int (nI 10)), some (.int ((nI k) + 1)), some (.int (g 9 k))]) C dX4_digest_71 rfl rfl rfl rfl ?_
        refine v_lo (lo' := [some (.ref (Z.ad 0)), some (.long (mixN (g 9) (k + 1) (mixN (ctO g) 7 1721))), none, some (.ref (Z.ad 9)), some (.int (nI 10)), some (.int (nI (k + 1))), some (.int (g 9 k))]) (by rw [← nI_1 k]) ?_
        refine v_goto (tgt := 48) C dX4_digest_74 (by decide) ?_
        exact ih (k + 1) _ (by omega) (by omega)
  have loopA : ∀ (n : Nat) (k : Nat), 7 - k < n → k ≤ 7 → V P (rmz 4 82 0 0) Z [some (.ref (Z.ad 0)), some (.long (mixN (ctO g) k 1721)), none, some (.int (nI k)), none, none, none] 11 [] g 0 0 := by
    intro n
    induction n with
    | zero => intro k hn; exact absurd hn (Nat.not_lt_zero _)
    | succ n ih =>
      intro k hn hk
      refine v_iload_n C dX4_digest_11 rfl rfl ?_
      refine v_bipush (v := 6) C dX4_digest_12 (by decide) ?_
      refine v_icmp_gt (tgt := 36) C dX4_digest_14 (by decide) (fun h14 => ?_) (fun h14 => ?_)
      · have hkn : k = 7 := Nat.le_antisymm hk (by have := (nI_ltI (a := 6) (by decide) (by omega)).mp h14; omega)
        subst hkn
        refine v_aload_n C dX4_digest_36 rfl rfl ?_
        refine v_get C inG4 rfl 9 (by decide) (tg3 204 rfl rfl) rfl cx_M rfl dX4_digest_37 ?_
        refine v_astore_n (lo' := [some (.ref (Z.ad 0)), some (.long (mixN (ctO g) 7 1721)), none, some (.ref (Z.ad 9)), none, none, none]) C dX4_digest_40 rfl (Nat.le_of_ble_eq_true rfl) rfl rfl ?_
        refine v_aload_n C dX4_digest_41 rfl rfl ?_
        refine v_alen (v := 10) C cxA9 rfl dX4_digest_42 ?_
        refine v_topi (y := nI 10) rfl ?_
        refine v_istore (lo' := [some (.ref (Z.ad 0)), some (.long (mixN (ctO g) 7 1721)), none, some (.ref (Z.ad 9)), some (.int (nI 10)), none, none]) C dX4_digest_43 (Nat.le_of_ble_eq_true rfl) rfl rfl ?_
        refine v_iconst (v := 0) C dX4_digest_45 (by decide) ?_
        refine v_istore (lo' := [some (.ref (Z.ad 0)), some (.long (mixN (ctO g) 7 1721)), none, some (.ref (Z.ad 9)), some (.int (nI 10)), some (.int 0), none]) C dX4_digest_46 (Nat.le_of_ble_eq_true rfl) rfl rfl ?_
        exact loopB 11 0 _ (by omega) (Nat.zero_le _)
      · have hkn : k < 7 := Nat.lt_of_not_le fun q => h14 ((nI_ltI (a := 6) (by decide) (by omega)).mpr (by omega))
        refine v_lload_n C dX4_digest_17 rfl rfl ?_
        refine v_ldc2 (v := 31) C (tg4 220 rfl rfl) dX4_digest_18 ?_
        refine v_lmul C dX4_digest_21 ?_
        refine v_aload_n C dX4_digest_22 rfl rfl ?_
        refine v_iload_n C dX4_digest_23 rfl rfl ?_
        refine v_callVi (n := 1) (as := [.int (nI k)]) C (c_counted _ Z k np g hnp hp6 hkn) (gv (tg4 180 rfl rfl) (tg4 182 rfl rfl) (tg0 36 rfl rfl) (tg1 6 rfl rfl) (tg4 183 rfl rfl)) (by decide +kernel) ⟨Nat.le_of_ble_eq_true rfl, Nat.le_of_ble_eq_true rfl⟩ rfl cx_M rfl rfl (Nat.le_of_ble_eq_true rfl) dX4_digest_24 ⟨Nat.le_of_ble_eq_true rfl, Nat.le_of_ble_eq_true rfl⟩ (fun r24 g24 hp24 => ?_)
        obtain ⟨rfl, hg24⟩ := hp24
        rw [hg24]
        refine v_i2l C dX4_digest_27 ?_
        refine v_ladd C dX4_digest_28 ?_
        refine v_topl (y := mixN (ctO g) (k + 1) 1721) rfl ?_
        refine v_lstore_n (lo' := [some (.ref (Z.ad 0)), some (.long (mixN (ctO g) (k + 1) 1721)), none, some (.int (nI k)), none, none, none]) C dX4_digest_29 rfl (Nat.le_of_ble_eq_true rfl) rfl rfl ?_
        refine v_iinc (lo' := [some (.ref (Z.ad 0)), some (.long (mixN (ctO g) (k + 1) 1721)), none, some (.int ((nI k) + 1)), none, none, none]) C dX4_digest_30 rfl rfl rfl rfl ?_
        refine v_lo (lo' := [some (.ref (Z.ad 0)), some (.long (mixN (ctO g) (k + 1) 1721)), none, some (.int (nI (k + 1))), none, none, none]) (by rw [← nI_1 k]) ?_
        refine v_goto (tgt := 11) C dX4_digest_33 (by decide) ?_
        exact ih (k + 1) (by omega) (by omega)
  refine v_aload_n C dX4_digest_0 rfl rfl ?_
  refine v_iconst (v := 0) C dX4_digest_1 (by decide) ?_
  refine v_put C inG4 rfl tyX4 tyX4_ok nmX4 0 (by decide) (tg3 195 rfl rfl) rfl rfl (ty := .int) rfl rfl rfl cx_M (Nat.le_of_ble_eq_true rfl) rfl (by omega) cx_M dX4_digest_2 ?_
  rw [← hg]
  refine v_ldc2 (v := 1721) C (tg4 219 rfl rfl) dX4_digest_5 ?_
  refine v_lstore_n (lo' := [some (.ref (Z.ad 0)), some (.long 1721), none, none, none, none, none]) C dX4_digest_8 rfl (Nat.le_of_ble_eq_true rfl) rfl rfl ?_
  refine v_iconst (v := 0) C dX4_digest_9 (by decide) ?_
  refine v_topi (y := nI 0) rfl ?_
  refine v_istore_n (lo' := [some (.ref (Z.ad 0)), some (.long 1721), none, some (.int (nI 0)), none, none, none]) C dX4_digest_10 rfl (Nat.le_of_ble_eq_true rfl) rfl rfl ?_
  exact loopA 8 0 (by omega) (Nat.zero_le _)
