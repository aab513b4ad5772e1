/-! THE REFERENCE: sums over a poster's lines -/
def sumI (f : Nat → Int32) : Nat → Int32
  | 0 => 0
  | n + 1 => sumI f n + f n
theorem sumI_cong {f h : Nat → Int32} : ∀ n, (∀ k, k < n → f k = h k) → sumI f n = sumI h n := by
  intro n
  induction n with
  | zero => intro _; rfl
  | succ n ih => intro hh; rw [sumI, sumI, ih (fun k hk => hh k (by omega)), hh n (by omega)]
def mx0 (x : Int32) : Int32 := if 0 < x then x else 0
def lfn (L : List (Nat × TS)) (k : Nat) : Nat := match L[k]? with
  | some q => q.1
  | none => 0
def cntD (t c : Nat) : Nat → Nat
  | 0 => 0
  | m + 1 => cntD t c m + (if t / 10 ^ m % 10 = c then 1 else 0)
theorem cntD_le (t c : Nat) : ∀ m, cntD t c m ≤ m := by
  intro m
  induction m with
  | zero => exact Nat.le_refl 0
  | succ m ih => unfold cntD; split <;> omega
def outN (fr : Nat → Int32) (tk wd : Nat → Nat) (p f c : Nat) : Nat → Nat
  | 0 => 0
  | k + 1 => outN fr tk wd p f c k + (if fr (4 * p + k) = nI f then cntD (tk (4 * p + k)) c (szw (wd (4 * p + k))) else 0)
theorem outN_le (fr : Nat → Int32) (tk wd : Nat → Nat) (p f c : Nat) : ∀ k, outN fr tk wd p f c k ≤ 10 * k := by
  intro k
  induction k with
  | zero => exact Nat.le_refl 0
  | succ k ih =>
    unfold outN
    have h1 := cntD_le (tk (4 * p + k)) c (szw (wd (4 * p + k)))
    have h2 : szw (wd (4 * p + k)) ≤ 10 := szw_le
    split <;> omega
def flO (g : MG) (p nl : Nat) : Int32 := if g 15 p = 1 then sumI (fun k => g 19 (4 * p + k)) nl else 0
def prO (g : MG) (wd : Nat → Nat) (p nl t : Nat) : Int32 := if g 15 p = 0 then 0 else mx0 (sumI (fun k => g 5 (iz (g 18 (4 * p + k))) * nI (szw (wd (4 * p + k)))) nl * g 10 t - flO g p nl * g 11 t)
