/-! THE REFERENCE: set, print, strike -/
def lfl (L : List (Nat × TS)) (k : Nat) : Int32 := match L[k]? with
  | some q => q.2.2.1
  | none => 0
def lwd (L : List (Nat × TS)) (k : Nat) : Int32 := match L[k]? with
  | some q => q.2.2.2
  | none => 0
def cdSet (g : MG) (p : Int32) : Nat := if isN (npO g) p = false then 1 else match plO g (iz p) with
  | none => 2
  | some _ => 0
def setG (g : MG) (p : Nat) (a : List (Nat × TS) × (Nat → Int32)) : MG := fun k j =>
  if k = 18 then (if 4 * p ≤ j ∧ j < 4 * p + a.1.length then nI (lfn a.1 (j - 4 * p)) else g 18 j)
  else if k = 19 then (if 4 * p ≤ j ∧ j < 4 * p + a.1.length then lfl a.1 (j - 4 * p) else g 19 j)
  else if k = 20 then (if 4 * p ≤ j ∧ j < 4 * p + a.1.length then lwd a.1 (j - 4 * p) else g 20 j)
  else if k = 7 then (if j < 50 then g 7 j + a.2 j else g 7 j)
  else if k = 15 then (if j = p then 1 else g 15 j)
  else g k j
def stSet (g : MG) (p : Int32) : MG := if isN (npO g) p = false then g else match plO g (iz p) with
  | none => g
  | some a => setG g (iz p) a
def cdPrint (g : MG) (p c : Int32) : Nat := if isN (npO g) p = false then 1 else if inB c 1 500 = false then 2 else if g 15 (iz p) = 0 then 3 else 0
def gtO (g : MG) (p : Nat) (c : Int32) : Int32 := prO g (wdO g) p (nlO g p) (iz (g 12 p)) * c / 100
def stPrint (g : MG) (p c : Int32) : MG := if cdPrint g p c = 0 then wr (wr (rwr g 8 (fun j => if j < 50 then g 8 j + c * nI (outO g (iz p) (j / 10) (j % 10)) else g 8 j)) 0 3 (g 0 3 + gtO g (iz p) c)) 16 (iz p) (g 16 (iz p) + c) else g
def cdStrike (g : MG) (p : Int32) : Nat := if isN (npO g) p = false then 1 else if g 15 (iz p) = 0 then 2 else 0
def skO (g : MG) (p j : Nat) : Int32 := g 7 j - nI (outO g p (j / 10) (j % 10))
def brO (g : MG) (p j : Nat) : Int32 := mn (g 8 j / 400) (g 6 j - skO g p j)
def stStrike (g : MG) (p : Int32) : MG := if cdStrike g p = 0 then fun k j =>
  if k = 7 then (if j < 50 then skO g (iz p) j else g 7 j)
  else if k = 6 then (if j < 50 then g 6 j - brO g (iz p) j else g 6 j)
  else if k = 8 then (if j < 50 then g 8 j - 400 * brO g (iz p) j else g 8 j)
  else if k = 15 then (if j = iz p then 0 else g 15 j)
  else if k = 0 then (if j = 4 then g 0 4 + sumI (brO g (iz p)) 50 else g 0 j)
  else g k j
  else g
