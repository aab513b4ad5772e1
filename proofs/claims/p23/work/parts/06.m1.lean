/-! THE REFERENCE's small methods -/
def inB (v lo hi : Int32) : Bool := decide (lo ≤ v) && decide (v ≤ hi)
theorem inB_t {v lo hi : Int32} : inB v lo hi = true ↔ lo.toInt ≤ v.toInt ∧ v.toInt ≤ hi.toInt := by simp [inB, i_le]
theorem inB_f {v lo hi : Int32} : inB v lo hi = false ↔ ¬ (lo.toInt ≤ v.toInt ∧ v.toInt ≤ hi.toInt) := by rw [← inB_t]; cases inB v lo hi <;> simp
def okM (g : MG) (f k : Nat) (x : Int32) : Bool := decide (0 < g 6 (10 * f + k) - g 7 (10 * f + k) - g 21 (10 * f + k) - x)
def dgc : Nat → Nat → Nat
  | 0, _ => 0
  | f + 1, r => if r = 0 then 0 else dgc f (r / 10) + 1
def szw (w : Nat) : Nat := 1 + dgc 9 (w / 10)
