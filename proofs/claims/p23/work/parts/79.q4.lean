/-! WHAT A LINE TAKES: the law's own try, letter by letter -/
def okF (fr : Nat → Int32) : Nat → Int32 → Bool := fun d x => decide (0 < fr d - x)
/-- two rows over m, at T and behind -/
def M2 (m : MG) (T : Nat) (r1 r2 : Nat → Int32) : MG := rwr (rwr m T r1) (T + 1) r2
theorem M2_a (m : MG) (T : Nat) (r1 r2 : Nat → Int32) : M2 m T r1 r2 T = r1 := by unfold M2; rw [rwr_ne _ _ _ (by omega), rwr_same]
theorem M2_b (m : MG) (T : Nat) (r1 r2 : Nat → Int32) : M2 m T r1 r2 (T + 1) = r2 := by unfold M2; rw [rwr_same]
theorem M2_o (m : MG) (T : Nat) (r1 r2 : Nat → Int32) {k : Nat} (h : k < T) : M2 m T r1 r2 k = m k := by unfold M2; rw [rwr_ne _ _ _ (by omega), rwr_ne _ _ _ (by omega)]
theorem wr_M2a (m : MG) (T : Nat) (r1 r2 : Nat → Int32) (j : Nat) (x : Int32) : wr (M2 m T r1 r2) T j x = M2 m T (upd r1 j x) r2 := by
  rw [wr_rwr, M2_a]
  funext q
  unfold M2 rwr
  by_cases h : q = T
  · rw [if_pos h, if_neg (by omega), if_pos h]
  · rw [if_neg h, if_neg h]
    by_cases h2 : q = T + 1
    · rw [if_pos h2, if_pos h2]
    · rw [if_neg h2, if_neg h2, if_neg h]
theorem wr_M2b (m : MG) (T : Nat) (r1 r2 : Nat → Int32) (j : Nat) (x : Int32) : wr (M2 m T r1 r2) (T + 1) j x = M2 m T r1 (upd r2 j x) := by
  rw [wr_rwr, M2_b]
  funext q
  unfold M2 rwr
  by_cases h2 : q = T + 1
  · rw [if_pos h2, if_pos h2]
  · rw [if_neg h2, if_neg h2, if_neg h2]
theorem dfN_c {f h h' : Nat → Int32} : ∀ n, (∀ c, c < n → h c = h' c) → dfN f h n = dfN f h' n := by
  intro n
  induction n with
  | zero => intro _; rfl
  | succ n ih => intro hh; rw [dfN, dfN, ih (fun c hc => hh c (by omega)), hh n (by omega)]
def TkI (ok : Nat → Int32 → Bool) (ot : Nat → Int32) (t n : Nat) (fr mA : Nat → Int32) (k : Nat) (s : TS) (r1 r2 : Nat → Int32) (a : Nat) : Prop :=
  tlR ok ot t n ts0 = tlR ok ot t (n - k) s ∧ (∀ d, d < 10 → r1 d = fr d - s.1 d) ∧ (r1 100000 = 1 ∧ r1 100001 = nI 10) ∧ (r2 100000 = 1 ∧ r2 100001 = nI n) ∧ s.2.2 = nI a ∧ a < 10 ^ k ∧ (∀ c, c < k → r2 c = nI (a / 10 ^ (k - 1 - c) % 10)) ∧ s.2.1 = nI (dfN mA r2 k)
theorem TkI.none {ok : Nat → Int32 → Bool} {ot : Nat → Int32} {t n : Nat} {fr mA : Nat → Int32} {k : Nat} {s : TS} {r1 r2 : Nat → Int32} {a : Nat} (h : TkI ok ot t n fr mA k s r1 r2 a) (hk : k < n) (h1 : tl1 ok ot s (t / 10 ^ (n - 1 - k) % 10) = none) : tlR ok ot t n ts0 = none := by
  rw [h.1, show n - k = (n - 1 - k) + 1 by omega, tlR, h1]
  rfl
theorem TkI.step {ok : Nat → Int32 → Bool} {ot : Nat → Int32} {t n : Nat} {fr mA : Nat → Int32} {k : Nat} {s : TS} {r1 r2 : Nat → Int32} {a : Nat} (h : TkI ok ot t n fr mA k s r1 r2 a) (hk : k < n) (hn : n ≤ 10) {o : Nat} (ho : o < 10) (hA : mA k = nI (t / 10 ^ (n - 1 - k) % 10))
    (h1 : tl1 ok ot s (t / 10 ^ (n - 1 - k) % 10) = some (upd s.1 o (s.1 o + 1), (if o = t / 10 ^ (n - 1 - k) % 10 then s.2.1 else s.2.1 + 1), 10 * s.2.2 + nI o)) :
    TkI ok ot t n fr mA (k + 1) (upd s.1 o (s.1 o + 1), (if o = t / 10 ^ (n - 1 - k) % 10 then s.2.1 else s.2.1 + 1), 10 * s.2.2 + nI o) (upd r1 o (r1 o - 1)) (upd r2 k (nI o)) (10 * a + o) := by
  obtain ⟨e1, e2, ⟨e3, e4⟩, ⟨e5, e6⟩, e7, e8, e9, e10⟩ := h
  have hd : t / 10 ^ (n - 1 - k) % 10 < 10 := Nat.mod_lt _ (by decide)
  refine ⟨?_, fun d hd' => ?_, ⟨(if_neg (by omega)).trans e3, (if_neg (by omega)).trans e4⟩, ⟨(if_neg (by omega)).trans e5, (if_neg (by omega)).trans e6⟩, ?_, ?_, fun c hc => ?_, ?_⟩
  · rw [e1, show n - k = (n - 1 - k) + 1 by omega, tlR, h1, show n - (k + 1) = n - 1 - k by omega]
    rfl
  · show upd r1 o (r1 o - 1) d = fr d - upd s.1 o (s.1 o + 1) d
    unfold upd
    by_cases h2 : d = o
    · rw [if_pos h2, if_pos h2, h2, e2 o ho]
      grind
    · rw [if_neg h2, if_neg h2, e2 d hd']
  · show 10 * s.2.2 + nI o = nI (10 * a + o)
    rw [e7, nI_10]
  · rw [Nat.pow_succ]; omega
  · unfold upd
    by_cases h2 : c = k
    · rw [if_pos h2, h2, show k + 1 - 1 - k = 0 by omega, Nat.pow_zero, Nat.div_one, show (10 * a + o) % 10 = o by omega]
    · rw [if_neg h2, e9 c (by omega), show k + 1 - 1 - c = (k - 1 - c) + 1 by omega, Nat.pow_succ, Nat.mul_comm (10 ^ (k - 1 - c)) 10, ← Nat.div_div_eq_div_mul, show (10 * a + o) / 10 = a by omega]
  · have hdf : dfN mA (upd r2 k (nI o)) k = dfN mA r2 k := dfN_c k (fun c hc => if_neg (by omega))
    show (if o = t / 10 ^ (n - 1 - k) % 10 then s.2.1 else s.2.1 + 1) = nI (dfN mA (upd r2 k (nI o)) (k + 1))
    rw [dfN, hdf, hA, show upd r2 k (nI o) k = nI o from if_pos rfl]
    by_cases h2 : o = t / 10 ^ (n - 1 - k) % 10
    · rw [if_pos h2, if_pos (by rw [h2]), e10]; rfl
    · rw [if_neg h2, if_neg (fun z => h2 (nI_inj (by omega) (by omega) z).symm), e10, nI_succ]
theorem tl1_own {fr ot : Nat → Int32} {s : TS} {d : Nat} (h : 0 < fr d - s.1 d) : tl1 (okF fr) ot s d = some (upd s.1 d (s.1 d + 1), (if d = d then s.2.1 else s.2.1 + 1), 10 * s.2.2 + nI d) := by
  unfold tl1 okF
  rw [if_pos (decide_eq_true h), if_pos rfl]
theorem tl1_oth {fr ot : Nat → Int32} {s : TS} {d o : Nat} (h : ¬ 0 < fr d - s.1 d) (ho : o < 10) (hod : o ≠ d) (he : ot d = nI o) (h2 : 0 < fr o - s.1 o) : tl1 (okF fr) ot s d = some (upd s.1 o (s.1 o + 1), (if o = d then s.2.1 else s.2.1 + 1), 10 * s.2.2 + nI o) := by
  unfold tl1 okF
  rw [if_neg (by simpa using h), if_neg (by rw [he]; exact nI_m1 (by omega)), he, iz_nI (by omega), if_pos (decide_eq_true h2), if_neg hod]
theorem tl1_no {fr ot : Nat → Int32} {s : TS} {d : Nat} (h : ¬ 0 < fr d - s.1 d) (h2 : ot d = -1 ∨ ∃ o, o < 10 ∧ ot d = nI o ∧ ¬ 0 < fr o - s.1 o) : tl1 (okF fr) ot s d = none := by
  unfold tl1 okF
  rw [if_neg (by simpa using h)]
  rcases h2 with h2 | ⟨o, ho, he, h2⟩
  · rw [if_pos h2]
  · rw [if_neg (by rw [he]; exact nI_m1 (by omega)), he, iz_nI (by omega), if_neg (by simpa using h2)]
/-- what the law's try of a line answers and leaves -/
def tkQ (o : Option TS) (v : Option Nat) (ad' : Nat → Nat) (m m' : MG) (T n A : Nat) : Prop := match o with
  | none => v = none ∧ m' = m
  | some s => ∃ r a, v = some (ad' T) ∧ m' = rwr m T r ∧ (r 100000 = 1 ∧ r 100001 = nI n) ∧ s.2.2 = nI a ∧ a < 10 ^ n ∧ (∀ c, c < n → r c = nI (a / 10 ^ (n - 1 - c) % 10)) ∧ s.2.1 = nI (dfN (m A) r n) ∧ Fr (rwr m T r) (T + 1)
