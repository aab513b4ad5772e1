/-! THE REFERENCE: the best fount of a line, and a poster that is tried -/
def btr (ht : Nat → Int32) (fl : Int32) (f : Nat) (least best : Int32) : Bool := if fl = -1 ∨ best = -1 then decide (¬ fl = -1) else decide (fl < least) || (decide (fl = least) && decide (ht (iz best) < ht f))
def trv (o : Option TS) : Int32 := match o with
  | none => -1
  | some s => s.2.1
theorem tlQ_trv {o : Option TS} {r : Int32} {g' : MG} (h : tlQ o r g') : r = trv o := by
  cases o with
  | none => exact h
  | some s => exact h.1
/-- the best fount, from f on, n more of them: (least flaws, best) -/
def bo (fv ht : Nat → Int32) (tall : Int32) : Nat → Nat → Int32 × Int32 → Int32 × Int32
  | 0, _, s => s
  | n + 1, f, s => bo fv ht tall n (f + 1) (if ht f < tall then s else if btr ht (fv f) f s.1 s.2 then (fv f, nI f) else s)
def fvM (g : MG) (w f : Nat) : Int32 := trv (tlR (okM g f) (g 9) w (szw w) ts0)
theorem frT.trans {a b c : MG} (h1 : frT a b) (h2 : frT b c) : frT a c := ⟨fun q x y => (h2.1 q x y).trans (h1.1 q x y), fun j x => (h2.2 j x).trans (h1.2 j x)⟩
theorem fvM_fr {g g' : MG} (h : frT g g') (w f : Nat) : fvM g' w f = fvM g w f := by
  unfold fvM
  rw [h.1 9 (by decide) (by decide), show okM g' f = okM g f from funext fun k => funext fun x => okM_fr h f k x]
