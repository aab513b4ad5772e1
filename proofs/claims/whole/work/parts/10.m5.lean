/-! THE REFERENCE: sums over a poster's lines -/
def sumI (f : Nat → Int32) : Nat → Int32
  | 0 => 0
  | n + 1 => sumI f n + f n
theorem sumI_cong {f h : Nat → Int32} : ∀ n, (∀ k, k < n → f k = h k) → sumI f n = sumI h n := by
  intro n
  induction n with
  | zero => intro _; rfl
  | succ n ih => intro hh; rw [sumI, sumI, ih (fun k hk => hh k (by omega)), hh n (by omega)]
def mx0 (x : Int32) : Int32 := if 0 < x then x else 0
def lfn (L : List (Nat × TS)) (k : Nat) : Nat := match L[k]? with
  | some q => q.1
  | none => 0
def cntD (t c : Nat) : Nat → Nat
  | 0 => 0
  | m + 1 => cntD t c m + (if t / 10 ^ m % 10 = c then 1 else 0)
theorem cntD_le (t c : Nat) : ∀ m, cntD t c m ≤ m := by
  intro m
  induction m with
  | zero => exact Nat.le_refl 0
  | succ m ih => unfold cntD; split <;> omega
def outN (fr : Nat → Int32) (tk wd : Nat → Nat) (p f c : Nat) : Nat → Nat
  | 0 => 0
  | k + 1 => outN fr tk wd p f c k + (if fr (4 * p + k) = nI f then cntD (tk (4 * p + k)) c (szw (wd (4 * p + k))) else 0)
theorem outN_le (fr : Nat → Int32) (tk wd : Nat → Nat) (p f c : Nat) : ∀ k, outN fr tk wd p f c k ≤ 10 * k := by
  intro k
  induction k with
  | zero => exact Nat.le_refl 0
  | succ k ih =>
    unfold outN
    have h1 := cntD_le (tk (4 * p + k)) c (szw (wd (4 * p + k)))
    have h2 : szw (wd (4 * p + k)) ≤ 10 := szw_le
    split <;> omega
set_option maxRecDepth 100000 in
theorem c_letters (l : Launch) (Z : Zc) (p nl : Nat) (wd : Nat → Nat) (g : MG) (hp : p < 6) (hnl : g 14 p = nI nl) (h4 : nl ≤ 4) (hW : ∀ j, j < 24 → g 17 j = nI (wd j) ∧ wd j < 2 ^ 31) : MI l yX4_letters cX4_letters 4 (some .int) (rmz 1 22 0 0) Z [.ref (Z.ad 0), .int (nI p)] g (fun r g' => r = sumI (fun k => nI (szw (wd (4 * p + k)))) nl ∧ g' = g) := by
  refine ent_i (own := RX4) (lo := [some (.ref (Z.ad 0)), some (.int (nI p)), none, none]) (by decide) rfl (by simp [lg_sl, Value.category]) rfl (fun P hl C ret => ?_)
  have loop : ∀ (n : Nat) (k : Nat), nl - k < n → k ≤ nl → V P (rmz 1 22 0 0) Z [some (.ref (Z.ad 0)), some (.int (nI p)), some (.int (sumI (fun k => nI (szw (wd (4 * p + k)))) k)), some (.int (nI k))] 4 [] g 0 0 := by
    intro n
    induction n with
    | zero => intro k hn hk; exact absurd hn (Nat.not_lt_zero _)
    | succ n ih =>
      intro k hn hk
      refine v_iload_n C dX4_letters_4 rfl rfl ?_
      refine v_aload_n C dX4_letters_5 rfl rfl ?_
      refine v_get C inG4 rfl 14 (by decide) (tg3 209 rfl rfl) rfl cx_M rfl dX4_letters_6 ?_
      refine v_iload_n C dX4_letters_9 rfl rfl ?_
      refine v_ialdN (a := p) C cxA14 ⟨hp, by decide⟩ dX4_letters_10 ?_
      refine v_topi (y := nI nl) hnl ?_
      refine v_icmp_ge (tgt := 36) C dX4_letters_11 (by decide) (fun h11 => ?_) (fun h11 => ?_)
      · have hkn : k = nl := Nat.le_antisymm hk ((nI_leI (by omega) (by omega)).mp h11)
        subst hkn
        refine v_iload_n C dX4_letters_36 rfl rfl ?_
        exact ret _ _ _ _ dX4_letters_37 ⟨rfl, rfl⟩
      · have hkn : k < nl := Nat.lt_of_not_le fun q => h11 ((nI_leI (by omega) (by omega)).mpr q)
        refine v_iload_n C dX4_letters_14 rfl rfl ?_
        refine v_aload_n C dX4_letters_15 rfl rfl ?_
        refine v_get C inG4 rfl 17 (by decide) (tg3 212 rfl rfl) rfl cx_M rfl dX4_letters_16 ?_
        refine v_iconst (v := 4) C dX4_letters_19 (by decide) ?_
        refine v_iload_n C dX4_letters_20 rfl rfl ?_
        refine v_imul C dX4_letters_21 ?_
        refine v_topi (y := nI (4 * p)) (by rw [show (4 : Int32) = nI 4 from rfl, nI_mul]) ?_
        refine v_iload_n C dX4_letters_22 rfl rfl ?_
        refine v_iadd C dX4_letters_23 ?_
        refine v_topi (y := nI (4 * p + k)) (nI_add _ _) ?_
        refine v_ialdN (a := (4 * p + k)) C cxA17 (by omega) dX4_letters_24 ?_
        refine v_topi (y := nI (wd (4 * p + k))) (hW _ (by omega)).1 ?_
        refine v_callSi (n := 1) (as := [.int (nI (wd (4 * p + k)))]) C (c_size _ Z (wd (4 * p + k)) g (hW _ (by omega)).2) (gs (tg4 108 rfl rfl) (tg4 109 rfl rfl) (tg1 6 rfl rfl) (tg4 110 rfl rfl)) (by decide +kernel) ⟨Nat.le_of_ble_eq_true rfl, Nat.le_of_ble_eq_true rfl⟩ rfl rfl (Nat.le_of_ble_eq_true rfl) dX4_letters_25 ⟨Nat.le_of_ble_eq_true rfl, Nat.le_of_ble_eq_true rfl⟩ (fun r25 g25 hp25 => ?_)
        obtain ⟨rfl, hg25⟩ := hp25
        rw [hg25]
        refine v_iadd C dX4_letters_28 ?_
        refine v_topi (y := sumI (fun k => nI (szw (wd (4 * p + k)))) (k + 1)) rfl ?_
        refine v_istore_n (lo' := [some (.ref (Z.ad 0)), some (.int (nI p)), some (.int (sumI (fun k => nI (szw (wd (4 * p + k)))) (k + 1))), some (.int (nI k))]) C dX4_letters_29 rfl (Nat.le_of_ble_eq_true rfl) rfl rfl ?_
        refine v_iinc (lo' := [some (.ref (Z.ad 0)), some (.int (nI p)), some (.int (sumI (fun k => nI (szw (wd (4 * p + k)))) (k + 1))), some (.int ((nI k) + 1))]) C dX4_letters_30 rfl rfl rfl rfl ?_
        refine v_lo (lo' := [some (.ref (Z.ad 0)), some (.int (nI p)), some (.int (sumI (fun k => nI (szw (wd (4 * p + k)))) (k + 1))), some (.int (nI (k + 1)))]) (by rw [← nI_1 k]) ?_
        refine v_goto (tgt := 4) C dX4_letters_33 (by decide) ?_
        exact ih (k + 1) (by omega) (by omega)
  refine v_iconst (v := 0) C dX4_letters_0 (by decide) ?_
  refine v_topi (y := sumI (fun k => nI (szw (wd (4 * p + k)))) 0) rfl ?_
  refine v_istore_n (lo' := [some (.ref (Z.ad 0)), some (.int (nI p)), some (.int (sumI (fun k => nI (szw (wd (4 * p + k)))) 0)), none]) C dX4_letters_1 rfl (Nat.le_of_ble_eq_true rfl) rfl rfl ?_
  refine v_iconst (v := 0) C dX4_letters_2 (by decide) ?_
  refine v_topi (y := nI 0) rfl ?_
  refine v_istore_n (lo' := [some (.ref (Z.ad 0)), some (.int (nI p)), some (.int (sumI (fun k => nI (szw (wd (4 * p + k)))) 0)), some (.int (nI 0))]) C dX4_letters_3 rfl (Nat.le_of_ble_eq_true rfl) rfl rfl ?_
  exact loop (nl + 1) 0 (by omega) (by omega)
def flO (g : MG) (p nl : Nat) : Int32 := if g 15 p = 1 then sumI (fun k => g 19 (4 * p + k)) nl else 0
set_option maxRecDepth 100000 in
theorem c_flawsOf (l : Launch) (Z : Zc) (p nl : Nat) (g : MG) (hp : p < 6) (hnl : g 14 p = nI nl) (h4 : nl ≤ 4) : MI l yX4_flawsOf cX4_flawsOf 4 (some .int) (rmz 0 0 0 0) Z [.ref (Z.ad 0), .int (nI p)] g (fun r g' => r = flO g p nl ∧ g' = g) := by
  refine ent_i (own := RX4) (lo := [some (.ref (Z.ad 0)), some (.int (nI p)), none, none]) (by decide) rfl (by simp [lg_sl, Value.category]) rfl (fun P hl C ret => ?_)
  have loop : ∀ (n : Nat) (k : Nat), nl - k < n → k ≤ nl → (k = 0 ∨ g 15 p = 1) → V P (rmz 0 0 0 0) Z [some (.ref (Z.ad 0)), some (.int (nI p)), some (.int (sumI (fun k => g 19 (4 * p + k)) k)), some (.int (nI k))] 4 [] g 0 0 := by
    intro n
    induction n with
    | zero => intro k hn hk h0; exact absurd hn (Nat.not_lt_zero _)
    | succ n ih =>
      intro k hn hk h0
      refine v_iload_n C dX4_flawsOf_4 rfl rfl ?_
      refine v_aload_n C dX4_flawsOf_5 rfl rfl ?_
      refine v_get C inG4 rfl 14 (by decide) (tg3 209 rfl rfl) rfl cx_M rfl dX4_flawsOf_6 ?_
      refine v_iload_n C dX4_flawsOf_9 rfl rfl ?_
      refine v_ialdN (a := p) C cxA14 ⟨hp, by decide⟩ dX4_flawsOf_10 ?_
      refine v_topi (y := nI nl) hnl ?_
      refine v_icmp_ge (tgt := 43) C dX4_flawsOf_11 (by decide) (fun h11 => ?_) (fun h11 => ?_)
      · have hkn : k = nl := Nat.le_antisymm hk ((nI_leI (by omega) (by omega)).mp h11)
        subst hkn
        refine v_iload_n C dX4_flawsOf_43 rfl rfl ?_
        exact ret _ _ _ _ dX4_flawsOf_44 ⟨by unfold flO; rcases h0 with h0 | h0; (· subst h0; split <;> rfl); (· rw [if_pos h0]), rfl⟩
      · have hkn : k < nl := Nat.lt_of_not_le fun q => h11 ((nI_leI (by omega) (by omega)).mpr q)
        refine v_aload_n C dX4_flawsOf_14 rfl rfl ?_
        refine v_get C inG4 rfl 15 (by decide) (tg3 210 rfl rfl) rfl cx_M rfl dX4_flawsOf_15 ?_
        refine v_iload_n C dX4_flawsOf_18 rfl rfl ?_
        refine v_ialdN (a := p) C cxA15 ⟨hp, by decide⟩ dX4_flawsOf_19 ?_
        refine v_iconst (v := 1) C dX4_flawsOf_20 (by decide) ?_
        refine v_icmp_ne (tgt := 43) C dX4_flawsOf_21 (by decide) (fun h21 => ?_) (fun h21 => ?_)
        · have hk0 : k = 0 := h0.resolve_right h21
          subst hk0
          refine v_iload_n C dX4_flawsOf_43 rfl rfl ?_
          exact ret _ _ _ _ dX4_flawsOf_44 ⟨by unfold flO; rw [if_neg h21]; rfl, rfl⟩
        · refine v_iload_n C dX4_flawsOf_24 rfl rfl ?_
          refine v_aload_n C dX4_flawsOf_25 rfl rfl ?_
          refine v_get C inG4 rfl 19 (by decide) (tg3 214 rfl rfl) rfl cx_M rfl dX4_flawsOf_26 ?_
          refine v_iconst (v := 4) C dX4_flawsOf_29 (by decide) ?_
          refine v_iload_n C dX4_flawsOf_30 rfl rfl ?_
          refine v_imul C dX4_flawsOf_31 ?_
          refine v_topi (y := nI (4 * p)) (by rw [show (4 : Int32) = nI 4 from rfl, nI_mul]) ?_
          refine v_iload_n C dX4_flawsOf_32 rfl rfl ?_
          refine v_iadd C dX4_flawsOf_33 ?_
          refine v_topi (y := nI (4 * p + k)) (nI_add _ _) ?_
          refine v_ialdN (a := (4 * p + k)) C cxA19 (by omega) dX4_flawsOf_34 ?_
          refine v_iadd C dX4_flawsOf_35 ?_
          refine v_topi (y := sumI (fun k => g 19 (4 * p + k)) (k + 1)) rfl ?_
          refine v_istore_n (lo' := [some (.ref (Z.ad 0)), some (.int (nI p)), some (.int (sumI (fun k => g 19 (4 * p + k)) (k + 1))), some (.int (nI k))]) C dX4_flawsOf_36 rfl (Nat.le_of_ble_eq_true rfl) rfl rfl ?_
          refine v_iinc (lo' := [some (.ref (Z.ad 0)), some (.int (nI p)), some (.int (sumI (fun k => g 19 (4 * p + k)) (k + 1))), some (.int ((nI k) + 1))]) C dX4_flawsOf_37 rfl rfl rfl rfl ?_
          refine v_lo (lo' := [some (.ref (Z.ad 0)), some (.int (nI p)), some (.int (sumI (fun k => g 19 (4 * p + k)) (k + 1))), some (.int (nI (k + 1)))]) (by rw [← nI_1 k]) ?_
          refine v_goto (tgt := 4) C dX4_flawsOf_40 (by decide) ?_
          exact ih (k + 1) (by omega) (by omega) (Or.inr h21)
  refine v_iconst (v := 0) C dX4_flawsOf_0 (by decide) ?_
  refine v_topi (y := sumI (fun k => g 19 (4 * p + k)) 0) rfl ?_
  refine v_istore_n (lo' := [some (.ref (Z.ad 0)), some (.int (nI p)), some (.int (sumI (fun k => g 19 (4 * p + k)) 0)), none]) C dX4_flawsOf_1 rfl (Nat.le_of_ble_eq_true rfl) rfl rfl ?_
  refine v_iconst (v := 0) C dX4_flawsOf_2 (by decide) ?_
  refine v_topi (y := nI 0) rfl ?_
  refine v_istore_n (lo' := [some (.ref (Z.ad 0)), some (.int (nI p)), some (.int (sumI (fun k => g 19 (4 * p + k)) 0)), some (.int (nI 0))]) C dX4_flawsOf_3 rfl (Nat.le_of_ble_eq_true rfl) rfl rfl ?_
  exact loop (nl + 1) 0 (by omega) (by omega) (Or.inl rfl)
set_option maxRecDepth 100000 in
theorem c_worth (l : Launch) (Z : Zc) (p t : Nat) (hi fl : Int32) (g : MG) (hp : p < 6) (ht : t < 4) (het : g 12 p = nI t) : MI l yX4_worth cX4_worth 4 (some .int) (rmz 1 13 0 0) Z [.ref (Z.ad 0), .int (nI p), .int hi, .int fl] g (fun r g' => r = mx0 (hi * g 10 t - fl * g 11 t) ∧ g' = g) := by
  refine ent_i (own := RX4) (lo := [some (.ref (Z.ad 0)), some (.int (nI p)), some (.int hi), some (.int fl)]) (by decide) rfl (by simp [lg_sl, Value.category]) rfl (fun P hl C ret => ?_)
  refine v_iconst (v := 0) C dX4_worth_0 (by decide) ?_
  refine v_iload_n C dX4_worth_1 rfl rfl ?_
  refine v_aload_n C dX4_worth_2 rfl rfl ?_
  refine v_get C inG4 rfl 10 (by decide) (tg3 205 rfl rfl) rfl cx_M rfl dX4_worth_3 ?_
  refine v_aload_n C dX4_worth_6 rfl rfl ?_
  refine v_get C inG4 rfl 12 (by decide) (tg3 207 rfl rfl) rfl cx_M rfl dX4_worth_7 ?_
  refine v_iload_n C dX4_worth_10 rfl rfl ?_
  refine v_ialdN (a := p) C cxA12 ⟨hp, by decide⟩ dX4_worth_11 ?_
  refine v_topi (y := nI t) het ?_
  refine v_ialdN (a := t) C cxA10 ⟨ht, by decide⟩ dX4_worth_12 ?_
  refine v_imul C dX4_worth_13 ?_
  refine v_iload_n C dX4_worth_14 rfl rfl ?_
  refine v_aload_n C dX4_worth_15 rfl rfl ?_
  refine v_get C inG4 rfl 11 (by decide) (tg3 206 rfl rfl) rfl cx_M rfl dX4_worth_16 ?_
  refine v_aload_n C dX4_worth_19 rfl rfl ?_
  refine v_get C inG4 rfl 12 (by decide) (tg3 207 rfl rfl) rfl cx_M rfl dX4_worth_20 ?_
  refine v_iload_n C dX4_worth_23 rfl rfl ?_
  refine v_ialdN (a := p) C cxA12 ⟨hp, by decide⟩ dX4_worth_24 ?_
  refine v_topi (y := nI t) het ?_
  refine v_ialdN (a := t) C cxA11 ⟨ht, by decide⟩ dX4_worth_25 ?_
  refine v_imul C dX4_worth_26 ?_
  refine v_isub C dX4_worth_27 ?_
  refine v_mmax C (tg4 143 rfl rfl) (tg1 182 rfl rfl) (tg1 14 rfl rfl) (tg1 183 rfl rfl) (Nat.le_of_ble_eq_true rfl) (Nat.le_of_ble_eq_true rfl) (Nat.le_of_ble_eq_true rfl) (Nat.le_of_ble_eq_true rfl) dX4_worth_28 ?_
  exact ret _ _ _ _ dX4_worth_31 ⟨rfl, rfl⟩
def prO (g : MG) (wd : Nat → Nat) (p nl t : Nat) : Int32 := if g 15 p = 0 then 0 else mx0 (sumI (fun k => g 5 (iz (g 18 (4 * p + k))) * nI (szw (wd (4 * p + k)))) nl * g 10 t - flO g p nl * g 11 t)
set_option maxRecDepth 100000 in
theorem c_proof (l : Launch) (Z : Zc) (p nl t : Nat) (wd : Nat → Nat) (g : MG) (hp : p < 6) (hnl : g 14 p = nI nl) (h4 : nl ≤ 4) (hW : ∀ j, j < 24 → g 17 j = nI (wd j) ∧ wd j < 2 ^ 31) (ht : t < 4) (het : g 12 p = nI t) (hF : g 15 p = 1 → ∀ k, k < nl → ∃ f, f < 5 ∧ g 18 (4 * p + k) = nI f) (h01 : g 15 p = 0 ∨ g 15 p = 1) : MI l yX4_proof cX4_proof 4 (some .int) (rmz 2 36 0 0) Z [.ref (Z.ad 0), .int (nI p)] g (fun r g' => r = prO g wd p nl t ∧ g' = g) := by
  refine ent_i (own := RX4) (lo := [some (.ref (Z.ad 0)), some (.int (nI p)), none, none]) (by decide) rfl (by simp [lg_sl, Value.category]) rfl (fun P hl C ret => ?_)
  by_cases h0 : g 15 p = 0
  · refine v_aload_n C dX4_proof_0 rfl rfl ?_
    refine v_get C inG4 rfl 15 (by decide) (tg3 210 rfl rfl) rfl cx_M rfl dX4_proof_1 ?_
    refine v_iload_n C dX4_proof_4 rfl rfl ?_
    refine v_ialdN (a := p) C cxA15 ⟨hp, by decide⟩ dX4_proof_5 ?_
    refine v_if_ne (tgt := 11) C dX4_proof_6 (by decide) (fun h6 => ?_) (fun h6 => ?_)
    · exact absurd h0 h6
    · refine v_iconst (v := 0) C dX4_proof_9 (by decide) ?_
      exact ret _ _ _ _ dX4_proof_10 ⟨by unfold prO; rw [if_pos h0], rfl⟩
  have loop : ∀ (n : Nat) (k : Nat), nl - k < n → k ≤ nl → V P (rmz 2 36 0 0) Z [some (.ref (Z.ad 0)), some (.int (nI p)), some (.int (sumI (fun k => g 5 (iz (g 18 (4 * p + k))) * nI (szw (wd (4 * p + k)))) k)), some (.int (nI k))] 15 [] g 0 0 := by
    intro n
    induction n with
    | zero => intro k hn hk; exact absurd hn (Nat.not_lt_zero _)
    | succ n ih =>
      intro k hn hk
      refine v_iload_n C dX4_proof_15 rfl rfl ?_
      refine v_aload_n C dX4_proof_16 rfl rfl ?_
      refine v_get C inG4 rfl 14 (by decide) (tg3 209 rfl rfl) rfl cx_M rfl dX4_proof_17 ?_
      refine v_iload_n C dX4_proof_20 rfl rfl ?_
      refine v_ialdN (a := p) C cxA14 ⟨hp, by decide⟩ dX4_proof_21 ?_
      refine v_topi (y := nI nl) hnl ?_
      refine v_icmp_ge (tgt := 63) C dX4_proof_22 (by decide) (fun h22 => ?_) (fun h22 => ?_)
      · have hkn : k = nl := Nat.le_antisymm hk ((nI_leI (by omega) (by omega)).mp h22)
        refine v_lo (lo' := [some (.ref (Z.ad 0)), some (.int (nI p)), some (.int (sumI (fun k => g 5 (iz (g 18 (4 * p + k))) * nI (szw (wd (4 * p + k)))) nl)), some (.int (nI k))]) (by rw [hkn]) ?_
        refine v_aload_n C dX4_proof_63 rfl rfl ?_
        refine v_iload_n C dX4_proof_64 rfl rfl ?_
        refine v_iload_n C dX4_proof_65 rfl rfl ?_
        refine v_aload_n C dX4_proof_66 rfl rfl ?_
        refine v_iload_n C dX4_proof_67 rfl rfl ?_
        refine v_callVi (n := 1) (as := [.int (nI p)]) C (c_flawsOf _ Z p nl g hp hnl h4) (gv (tg4 135 rfl rfl) (tg4 137 rfl rfl) (tg0 30 rfl rfl) (tg1 6 rfl rfl) (tg4 138 rfl rfl)) (by decide +kernel) ⟨Nat.le_of_ble_eq_true rfl, Nat.le_of_ble_eq_true rfl⟩ rfl cx_M rfl rfl (Nat.le_of_ble_eq_true rfl) dX4_proof_68 ⟨Nat.le_of_ble_eq_true rfl, Nat.le_of_ble_eq_true rfl⟩ (fun r68 g68 hp68 => ?_)
        obtain ⟨rfl, hg68⟩ := hp68
        rw [hg68]
        refine v_callVi (n := 3) (as := [.int (nI p), .int (sumI (fun k => g 5 (iz (g 18 (4 * p + k))) * nI (szw (wd (4 * p + k)))) nl), .int (flO g p nl)]) C (c_worth _ Z p t (sumI (fun k => g 5 (iz (g 18 (4 * p + k))) * nI (szw (wd (4 * p + k)))) nl) (flO g p nl) g hp ht het) (gv (tg4 139 rfl rfl) (tg4 141 rfl rfl) (tg0 31 rfl rfl) (tg1 6 rfl rfl) (tg4 142 rfl rfl)) (by decide +kernel) ⟨Nat.le_of_ble_eq_true rfl, Nat.le_of_ble_eq_true rfl⟩ rfl cx_M rfl rfl (Nat.le_of_ble_eq_true rfl) dX4_proof_71 ⟨Nat.le_of_ble_eq_true rfl, Nat.le_of_ble_eq_true rfl⟩ (fun r71 g71 hp71 => ?_)
        obtain ⟨rfl, hg71⟩ := hp71
        rw [hg71]
        exact ret _ _ _ _ dX4_proof_74 ⟨by unfold prO; rw [if_neg h0], rfl⟩
      · have hkn : k < nl := Nat.lt_of_not_le fun q => h22 ((nI_leI (by omega) (by omega)).mpr q)
        refine v_iload_n C dX4_proof_25 rfl rfl ?_
        refine v_aload_n C dX4_proof_26 rfl rfl ?_
        refine v_get C inG4 rfl 5 (by decide) (tg3 200 rfl rfl) rfl cx_M rfl dX4_proof_27 ?_
        refine v_aload_n C dX4_proof_30 rfl rfl ?_
        refine v_get C inG4 rfl 18 (by decide) (tg3 213 rfl rfl) rfl cx_M rfl dX4_proof_31 ?_
        refine v_iconst (v := 4) C dX4_proof_34 (by decide) ?_
        refine v_iload_n C dX4_proof_35 rfl rfl ?_
        refine v_imul C dX4_proof_36 ?_
        refine v_topi (y := nI (4 * p)) (by rw [show (4 : Int32) = nI 4 from rfl, nI_mul]) ?_
        refine v_iload_n C dX4_proof_37 rfl rfl ?_
        refine v_iadd C dX4_proof_38 ?_
        refine v_topi (y := nI (4 * p + k)) (nI_add _ _) ?_
        refine v_ialdN (a := (4 * p + k)) C cxA18 (by omega) dX4_proof_39 ?_
        obtain ⟨fr, hfr5, hfre⟩ := hF (h01.resolve_left h0) k hkn
        refine v_topi (y := nI fr) hfre ?_
        refine v_ialdN (a := fr) C cxA5 (by omega) dX4_proof_40 ?_
        refine v_aload_n C dX4_proof_41 rfl rfl ?_
        refine v_get C inG4 rfl 17 (by decide) (tg3 212 rfl rfl) rfl cx_M rfl dX4_proof_42 ?_
        refine v_iconst (v := 4) C dX4_proof_45 (by decide) ?_
        refine v_iload_n C dX4_proof_46 rfl rfl ?_
        refine v_imul C dX4_proof_47 ?_
        refine v_topi (y := nI (4 * p)) (by rw [show (4 : Int32) = nI 4 from rfl, nI_mul]) ?_
        refine v_iload_n C dX4_proof_48 rfl rfl ?_
        refine v_iadd C dX4_proof_49 ?_
        refine v_topi (y := nI (4 * p + k)) (nI_add _ _) ?_
        refine v_ialdN (a := (4 * p + k)) C cxA17 (by omega) dX4_proof_50 ?_
        refine v_topi (y := nI (wd (4 * p + k))) (hW _ (by omega)).1 ?_
        refine v_callSi (n := 1) (as := [.int (nI (wd (4 * p + k)))]) C (c_size _ Z (wd (4 * p + k)) g (hW _ (by omega)).2) (gs (tg4 108 rfl rfl) (tg4 109 rfl rfl) (tg1 6 rfl rfl) (tg4 110 rfl rfl)) (by decide +kernel) ⟨Nat.le_of_ble_eq_true rfl, Nat.le_of_ble_eq_true rfl⟩ rfl rfl (Nat.le_of_ble_eq_true rfl) dX4_proof_51 ⟨Nat.le_of_ble_eq_true rfl, Nat.le_of_ble_eq_true rfl⟩ (fun r51 g51 hp51 => ?_)
        obtain ⟨rfl, hg51⟩ := hp51
        rw [hg51]
        refine v_imul C dX4_proof_54 ?_
        refine v_iadd C dX4_proof_55 ?_
        refine v_topi (y := sumI (fun k => g 5 (iz (g 18 (4 * p + k))) * nI (szw (wd (4 * p + k)))) (k + 1)) (by rw [sumI, hfre, iz_nI (by omega)]) ?_
        refine v_istore_n (lo' := [some (.ref (Z.ad 0)), some (.int (nI p)), some (.int (sumI (fun k => g 5 (iz (g 18 (4 * p + k))) * nI (szw (wd (4 * p + k)))) (k + 1))), some (.int (nI k))]) C dX4_proof_56 rfl (Nat.le_of_ble_eq_true rfl) rfl rfl ?_
        refine v_iinc (lo' := [some (.ref (Z.ad 0)), some (.int (nI p)), some (.int (sumI (fun k => g 5 (iz (g 18 (4 * p + k))) * nI (szw (wd (4 * p + k)))) (k + 1))), some (.int ((nI k) + 1))]) C dX4_proof_57 rfl rfl rfl rfl ?_
        refine v_lo (lo' := [some (.ref (Z.ad 0)), some (.int (nI p)), some (.int (sumI (fun k => g 5 (iz (g 18 (4 * p + k))) * nI (szw (wd (4 * p + k)))) (k + 1))), some (.int (nI (k + 1)))]) (by rw [← nI_1 k]) ?_
        refine v_goto (tgt := 15) C dX4_proof_60 (by decide) ?_
        exact ih (k + 1) (by omega) (by omega)
  refine v_aload_n C dX4_proof_0 rfl rfl ?_
  refine v_get C inG4 rfl 15 (by decide) (tg3 210 rfl rfl) rfl cx_M rfl dX4_proof_1 ?_
  refine v_iload_n C dX4_proof_4 rfl rfl ?_
  refine v_ialdN (a := p) C cxA15 ⟨hp, by decide⟩ dX4_proof_5 ?_
  refine v_if_ne (tgt := 11) C dX4_proof_6 (by decide) (fun h6 => ?_) (fun h6 => ?_)
  · refine v_iconst (v := 0) C dX4_proof_11 (by decide) ?_
    refine v_topi (y := sumI (fun k => g 5 (iz (g 18 (4 * p + k))) * nI (szw (wd (4 * p + k)))) 0) rfl ?_
    refine v_istore_n (lo' := [some (.ref (Z.ad 0)), some (.int (nI p)), some (.int (sumI (fun k => g 5 (iz (g 18 (4 * p + k))) * nI (szw (wd (4 * p + k)))) 0)), none]) C dX4_proof_12 rfl (Nat.le_of_ble_eq_true rfl) rfl rfl ?_
    refine v_iconst (v := 0) C dX4_proof_13 (by decide) ?_
    refine v_topi (y := nI 0) rfl ?_
    refine v_istore_n (lo' := [some (.ref (Z.ad 0)), some (.int (nI p)), some (.int (sumI (fun k => g 5 (iz (g 18 (4 * p + k))) * nI (szw (wd (4 * p + k)))) 0)), some (.int (nI 0))]) C dX4_proof_14 rfl (Nat.le_of_ble_eq_true rfl) rfl rfl ?_
    exact loop (nl + 1) 0 (by omega) (by omega)
  · exact absurd h6 h0
set_option maxRecDepth 100000 in
theorem c_outOf (l : Launch) (Z : Zc) (p nl f c : Nat) (wd tk : Nat → Nat) (g : MG) (hp : p < 6) (hnl : g 14 p = nI nl) (h4 : nl ≤ 4) (hW : ∀ j, j < 24 → g 17 j = nI (wd j) ∧ wd j < 2 ^ 31) (hf : f < 5) (hc : c < 2 ^ 31) (hT : ∀ k, k < nl → g 20 (4 * p + k) = nI (tk (4 * p + k)) ∧ tk (4 * p + k) < 2 ^ 31) : MI l yX4_outOf cX4_outOf 8 (some .int) (rmz 1 23 0 0) Z [.ref (Z.ad 0), .int (nI p), .int (nI f), .int (nI c)] g (fun r g' => r = nI (outN (g 18) tk wd p f c nl) ∧ g' = g) := by
  have hc9 : True := trivial
  refine ent_i (own := RX4) (lo := [some (.ref (Z.ad 0)), some (.int (nI p)), some (.int (nI f)), some (.int (nI c)), none, none, none, none]) (by decide) rfl (by simp [lg_sl, Value.category]) rfl (fun P hl C ret => ?_)
  have loopI : ∀ (n : Nat) (m q k : Nat), m < n → m ≤ 10 → k < nl → V P (rmz 1 23 0 0) Z [some (.ref (Z.ad 0)), some (.int (nI p)), some (.int (nI f)), some (.int (nI c)), some (.int (nI (q + cntD (tk (4 * p + k)) c m))), some (.int (nI k)), some (.int (nI (4 * p + k))), some (.int (nI 0 - 1))] 90 [] g 0 0 → V P (rmz 1 23 0 0) Z [some (.ref (Z.ad 0)), some (.int (nI p)), some (.int (nI f)), some (.int (nI c)), some (.int (nI q)), some (.int (nI k)), some (.int (nI (4 * p + k))), some (.int (nI m - 1))] 53 [] g 0 0 := by
    intro n
    induction n with
    | zero => intro m q k hn hm hkn K; exact absurd hn (Nat.not_lt_zero _)
    | succ n ih =>
      intro m q k hn hm hkn K
      refine v_iload C dX4_outOf_53 rfl ?_
      refine v_if_lt (tgt := 90) C dX4_outOf_55 (by decide) (fun h55 => ?_) (fun h55 => ?_)
      · cases m with
        | succ m => exact absurd h55 (by rw [nI_pred]; exact nI_pos (by omega))
        | zero => exact K
      · cases m with
        | zero => exact absurd (show nI 0 - 1 < 0 by decide) h55
        | succ m =>
          refine v_lo (lo' := [some (.ref (Z.ad 0)), some (.int (nI p)), some (.int (nI f)), some (.int (nI c)), some (.int (nI q)), some (.int (nI k)), some (.int (nI (4 * p + k))), some (.int (nI m))]) (by rw [nI_pred]) ?_
          refine v_iload C dX4_outOf_58 rfl ?_
          refine v_aload_n C dX4_outOf_60 rfl rfl ?_
          refine v_get C inG4 rfl 20 (by decide) (tg3 215 rfl rfl) rfl cx_M rfl dX4_outOf_61 ?_
          refine v_iload C dX4_outOf_64 rfl ?_
          refine v_ialdN (a := (4 * p + k)) C cxA20 (by omega) dX4_outOf_66 ?_
          refine v_topi (y := nI (tk (4 * p + k))) (hT k hkn).1 ?_
          refine v_iload C dX4_outOf_67 rfl ?_
          refine v_callSi (n := 2) (as := [.int (nI (tk (4 * p + k))), .int (nI m)]) C (c_letterAt _ Z (tk (4 * p + k)) m g (hT k hkn).2 (by omega)) (gs (tg4 111 rfl rfl) (tg4 112 rfl rfl) (tg1 6 rfl rfl) (tg4 113 rfl rfl)) (by decide +kernel) ⟨Nat.le_of_ble_eq_true rfl, Nat.le_of_ble_eq_true rfl⟩ rfl rfl (Nat.le_of_ble_eq_true rfl) dX4_outOf_69 ⟨Nat.le_of_ble_eq_true rfl, Nat.le_of_ble_eq_true rfl⟩ (fun r69 g69 hp69 => ?_)
          obtain ⟨rfl, hg69⟩ := hp69
          rw [hg69]
          refine v_iload_n C dX4_outOf_72 rfl rfl ?_
          refine v_icmp_ne (tgt := 80) C dX4_outOf_73 (by decide) (fun h73 => ?_) (fun h73 => ?_)
          · have hne : ¬ tk (4 * p + k) / 10 ^ m % 10 = c := fun z => h73 (by rw [z])
            refine v_iconst (v := 0) C dX4_outOf_80 (by decide) ?_
            refine v_iadd C dX4_outOf_81 ?_
            refine v_topi (y := nI q) (by rw [Int32.add_zero]) ?_
            refine v_istore (lo' := [some (.ref (Z.ad 0)), some (.int (nI p)), some (.int (nI f)), some (.int (nI c)), some (.int (nI q)), some (.int (nI k)), some (.int (nI (4 * p + k))), some (.int (nI m))]) C dX4_outOf_82 (Nat.le_of_ble_eq_true rfl) rfl rfl ?_
            refine v_iinc (lo' := [some (.ref (Z.ad 0)), some (.int (nI p)), some (.int (nI f)), some (.int (nI c)), some (.int (nI q)), some (.int (nI k)), some (.int (nI (4 * p + k))), some (.int ((nI m) + (-1)))]) C dX4_outOf_84 rfl rfl rfl rfl ?_
            refine v_goto (tgt := 53) C dX4_outOf_87 (by decide) ?_
            refine v_lo (lo' := [some (.ref (Z.ad 0)), some (.int (nI p)), some (.int (nI f)), some (.int (nI c)), some (.int (nI q)), some (.int (nI k)), some (.int (nI (4 * p + k))), some (.int (nI m - 1))]) (by rw [Int32.sub_eq_add_neg]) ?_
            exact ih m q k (by omega) (by omega) hkn (by rw [show q + cntD (tk (4 * p + k)) c m = q + cntD (tk (4 * p + k)) c (m + 1) by rw [cntD, if_neg hne]; rfl]; exact K)
          · have hne : tk (4 * p + k) / 10 ^ m % 10 = c := nI_inj (Nat.lt_of_lt_of_le (Nat.mod_lt _ (by decide)) (by decide)) hc h73
            refine v_iconst (v := 1) C dX4_outOf_76 (by decide) ?_
            refine v_goto (tgt := 81) C dX4_outOf_77 (by decide) ?_
            refine v_iadd C dX4_outOf_81 ?_
            refine v_topi (y := nI (q + 1)) (nI_1 q) ?_
            refine v_istore (lo' := [some (.ref (Z.ad 0)), some (.int (nI p)), some (.int (nI f)), some (.int (nI c)), some (.int (nI (q + 1))), some (.int (nI k)), some (.int (nI (4 * p + k))), some (.int (nI m))]) C dX4_outOf_82 (Nat.le_of_ble_eq_true rfl) rfl rfl ?_
            refine v_iinc (lo' := [some (.ref (Z.ad 0)), some (.int (nI p)), some (.int (nI f)), some (.int (nI c)), some (.int (nI (q + 1))), some (.int (nI k)), some (.int (nI (4 * p + k))), some (.int ((nI m) + (-1)))]) C dX4_outOf_84 rfl rfl rfl rfl ?_
            refine v_goto (tgt := 53) C dX4_outOf_87 (by decide) ?_
            refine v_lo (lo' := [some (.ref (Z.ad 0)), some (.int (nI p)), some (.int (nI f)), some (.int (nI c)), some (.int (nI (q + 1))), some (.int (nI k)), some (.int (nI (4 * p + k))), some (.int (nI m - 1))]) (by rw [Int32.sub_eq_add_neg]) ?_
            exact ih m (q + 1) k (by omega) (by omega) hkn (by rw [show q + 1 + cntD (tk (4 * p + k)) c m = q + cntD (tk (4 * p + k)) c (m + 1) by rw [cntD, if_pos hne]; omega]; exact K)
  have loop : ∀ (n : Nat) (k : Nat) (v v2 : Option Value), nl - k < n → k ≤ nl → V P (rmz 1 23 0 0) Z [some (.ref (Z.ad 0)), some (.int (nI p)), some (.int (nI f)), some (.int (nI c)), some (.int (nI (outN (g 18) tk wd p f c k))), some (.int (nI k)), v, v2] 6 [] g 0 0 := by
    intro n
    induction n with
    | zero => intro k v v2 hn hk; exact absurd hn (Nat.not_lt_zero _)
    | succ n ih =>
      intro k v v2 hn hk
      refine v_iload C dX4_outOf_6 rfl ?_
      refine v_aload_n C dX4_outOf_8 rfl rfl ?_
      refine v_get C inG4 rfl 14 (by decide) (tg3 209 rfl rfl) rfl cx_M rfl dX4_outOf_9 ?_
      refine v_iload_n C dX4_outOf_12 rfl rfl ?_
      refine v_ialdN (a := p) C cxA14 ⟨hp, by decide⟩ dX4_outOf_13 ?_
      refine v_topi (y := nI nl) hnl ?_
      refine v_icmp_ge (tgt := 96) C dX4_outOf_14 (by decide) (fun h14 => ?_) (fun h14 => ?_)
      · have hkn : k = nl := Nat.le_antisymm hk ((nI_leI (by omega) (by omega)).mp h14)
        subst hkn
        refine v_iload C dX4_outOf_96 rfl ?_
        exact ret _ _ _ _ dX4_outOf_98 ⟨rfl, rfl⟩
      · have hkn : k < nl := Nat.lt_of_not_le fun q => h14 ((nI_leI (by omega) (by omega)).mpr q)
        refine v_iconst (v := 4) C dX4_outOf_17 (by decide) ?_
        refine v_iload_n C dX4_outOf_18 rfl rfl ?_
        refine v_imul C dX4_outOf_19 ?_
        refine v_topi (y := nI (4 * p)) (by rw [show (4 : Int32) = nI 4 from rfl, nI_mul]) ?_
        refine v_iload C dX4_outOf_20 rfl ?_
        refine v_iadd C dX4_outOf_22 ?_
        refine v_topi (y := nI (4 * p + k)) (nI_add _ _) ?_
        refine v_istore (lo' := [some (.ref (Z.ad 0)), some (.int (nI p)), some (.int (nI f)), some (.int (nI c)), some (.int (nI (outN (g 18) tk wd p f c k))), some (.int (nI k)), some (.int (nI (4 * p + k))), v2]) C dX4_outOf_23 (Nat.le_of_ble_eq_true rfl) rfl rfl ?_
        refine v_aload_n C dX4_outOf_25 rfl rfl ?_
        refine v_get C inG4 rfl 18 (by decide) (tg3 213 rfl rfl) rfl cx_M rfl dX4_outOf_26 ?_
        refine v_iload C dX4_outOf_29 rfl ?_
        refine v_ialdN (a := (4 * p + k)) C cxA18 (by omega) dX4_outOf_31 ?_
        refine v_iload_n C dX4_outOf_32 rfl rfl ?_
        refine v_icmp_eq (tgt := 39) C dX4_outOf_33 (by decide) (fun h33 => ?_) (fun h33 => ?_)
        · refine v_aload_n C dX4_outOf_39 rfl rfl ?_
          refine v_get C inG4 rfl 17 (by decide) (tg3 212 rfl rfl) rfl cx_M rfl dX4_outOf_40 ?_
          refine v_iload C dX4_outOf_43 rfl ?_
          refine v_ialdN (a := (4 * p + k)) C cxA17 (by omega) dX4_outOf_45 ?_
          refine v_topi (y := nI (wd (4 * p + k))) (hW _ (by omega)).1 ?_
          refine v_callSi (n := 1) (as := [.int (nI (wd (4 * p + k)))]) C (c_size _ Z (wd (4 * p + k)) g (hW _ (by omega)).2) (gs (tg4 108 rfl rfl) (tg4 109 rfl rfl) (tg1 6 rfl rfl) (tg4 110 rfl rfl)) (by decide +kernel) ⟨Nat.le_of_ble_eq_true rfl, Nat.le_of_ble_eq_true rfl⟩ rfl rfl (Nat.le_of_ble_eq_true rfl) dX4_outOf_46 ⟨Nat.le_of_ble_eq_true rfl, Nat.le_of_ble_eq_true rfl⟩ (fun r46 g46 hp46 => ?_)
          obtain ⟨rfl, hg46⟩ := hp46
          rw [hg46]
          refine v_iconst (v := 1) C dX4_outOf_49 (by decide) ?_
          refine v_isub C dX4_outOf_50 ?_
          refine v_istore (lo' := [some (.ref (Z.ad 0)), some (.int (nI p)), some (.int (nI f)), some (.int (nI c)), some (.int (nI (outN (g 18) tk wd p f c k))), some (.int (nI k)), some (.int (nI (4 * p + k))), some (.int ((nI (szw (wd (4 * p + k)))) - 1))]) C dX4_outOf_51 (Nat.le_of_ble_eq_true rfl) rfl rfl ?_
          refine loopI 11 (szw (wd (4 * p + k))) (outN (g 18) tk wd p f c k) k (by have := @szw_le (wd (4 * p + k)); omega) szw_le hkn ?_
          refine v_iinc (lo' := [some (.ref (Z.ad 0)), some (.int (nI p)), some (.int (nI f)), some (.int (nI c)), some (.int (nI (outN (g 18) tk wd p f c k + cntD (tk (4 * p + k)) c (szw (wd (4 * p + k)))))), some (.int ((nI k) + 1)), some (.int (nI (4 * p + k))), some (.int (nI 0 - 1))]) C dX4_outOf_90 rfl rfl rfl rfl ?_
          refine v_lo (lo' := [some (.ref (Z.ad 0)), some (.int (nI p)), some (.int (nI f)), some (.int (nI c)), some (.int (nI (outN (g 18) tk wd p f c k + cntD (tk (4 * p + k)) c (szw (wd (4 * p + k)))))), some (.int (nI (k + 1))), some (.int (nI (4 * p + k))), some (.int (nI 0 - 1))]) (by rw [← nI_1 k]) ?_
          refine v_goto (tgt := 6) C dX4_outOf_93 (by decide) ?_
          refine v_lo (lo' := [some (.ref (Z.ad 0)), some (.int (nI p)), some (.int (nI f)), some (.int (nI c)), some (.int (nI (outN (g 18) tk wd p f c (k + 1)))), some (.int (nI (k + 1))), some (.int (nI (4 * p + k))), some (.int (nI 0 - 1))]) (by rw [outN, if_pos h33]) ?_
          exact ih (k + 1) _ _ (by omega) (by omega)
        · refine v_goto (tgt := 90) C dX4_outOf_36 (by decide) ?_
          refine v_iinc (lo' := [some (.ref (Z.ad 0)), some (.int (nI p)), some (.int (nI f)), some (.int (nI c)), some (.int (nI (outN (g 18) tk wd p f c k))), some (.int ((nI k) + 1)), some (.int (nI (4 * p + k))), v2]) C dX4_outOf_90 rfl rfl rfl rfl ?_
          refine v_lo (lo' := [some (.ref (Z.ad 0)), some (.int (nI p)), some (.int (nI f)), some (.int (nI c)), some (.int (nI (outN (g 18) tk wd p f c k))), some (.int (nI (k + 1))), some (.int (nI (4 * p + k))), v2]) (by rw [← nI_1 k]) ?_
          refine v_goto (tgt := 6) C dX4_outOf_93 (by decide) ?_
          refine v_lo (lo' := [some (.ref (Z.ad 0)), some (.int (nI p)), some (.int (nI f)), some (.int (nI c)), some (.int (nI (outN (g 18) tk wd p f c (k + 1)))), some (.int (nI (k + 1))), some (.int (nI (4 * p + k))), v2]) (by rw [outN, if_neg h33]; rfl) ?_
          exact ih (k + 1) _ _ (by omega) (by omega)
  refine v_iconst (v := 0) C dX4_outOf_0 (by decide) ?_
  refine v_topi (y := nI (outN (g 18) tk wd p f c 0)) rfl ?_
  refine v_istore (lo' := [some (.ref (Z.ad 0)), some (.int (nI p)), some (.int (nI f)), some (.int (nI c)), some (.int (nI (outN (g 18) tk wd p f c 0))), none, none, none]) C dX4_outOf_1 (Nat.le_of_ble_eq_true rfl) rfl rfl ?_
  refine v_iconst (v := 0) C dX4_outOf_3 (by decide) ?_
  refine v_topi (y := nI 0) rfl ?_
  refine v_istore (lo' := [some (.ref (Z.ad 0)), some (.int (nI p)), some (.int (nI f)), some (.int (nI c)), some (.int (nI (outN (g 18) tk wd p f c 0))), some (.int (nI 0)), none, none]) C dX4_outOf_4 (Nat.le_of_ble_eq_true rfl) rfl rfl ?_
  exact loop (nl + 1) 0 _ _ (by omega) (by omega)
