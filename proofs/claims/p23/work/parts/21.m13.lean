/-! THE REFERENCE: digest -/
def mixL (d : Int64) (x : Int32) : Int64 := d * 31 + x.toInt64
def mixN (f : Nat → Int32) : Nat → Int64 → Int64
  | 0, d => d
  | n + 1, d => mixL (mixN f n d) (f n)
def mixB (g : MG) (f : Nat) : Nat → Int64 → Int64
  | 0, d => d
  | k + 1, d => mixN (fun w => blkO g (10 * f + k) (nI w)) 3 (mixB g f k d)
def mixFs (g : MG) : Nat → Int64 → Int64
  | 0, d => d
  | f + 1, d => mixB g f 10 (mixL (mixFs g f d) (g 5 f))
def mixLs (g : MG) (p : Nat) : Nat → Int64 → Int64
  | 0, d => d
  | k + 1, d => mixN (fun w => ltoO g p k (nI w)) 4 (mixLs g p k d)
def mixPs (g : MG) : Nat → Int64 → Int64
  | 0, d => d
  | p + 1, d => mixLs g p (nlO g p) (mixN (fun w => toldO g p w) 8 (mixPs g p d))
def dgO (g : MG) : Int64 := mixPs g (npO g) (mixFs g (nfO g) (mixN (g 9) 10 (mixN (ctO g) 7 1721)))
