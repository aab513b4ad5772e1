/-! THE REFERENCE: what would be, and what there is -/
section VTB
variable {P : Pm} {R : Room} {Z : Zc} {cc : ByteArray} {own : String} {lo : Lo} {pc : Nat} {rest : List Value} {g : MG} {cs sl : Nat}
theorem v_tabOut (C : Cx P Z cc own) {dflt a b : Int} {offs : Array Int} {len : Nat} {x : Int32} {tgt : Nat} (hdg : decode cc pc = .ok (.tableswitch dflt a b offs, len)) (h : x.toInt < a ∨ b < x.toInt) (ht : (pc : Int) + dflt = (tgt : Int)) (k : V P R Z lo tgt rest g cs sl) : V P R Z lo pc (.int x :: rest) g cs sl := by
  obtain ⟨p, l, e, s, m, args, below, meth, c, Q, nL⟩ := P
  exact fun ls H locs hl hw hS => lv_tableOut C.1 C.2.1 hdg h ht (k ls H locs hl hw hS)
theorem v_tabIn (C : Cx P Z cc own) {dflt a b : Int} {offs : Array Int} {len : Nat} {x : Int32} {off : Int} {tgt : Nat} (hdg : decode cc pc = .ok (.tableswitch dflt a b offs, len)) (h1 : ¬ x.toInt < a) (h2 : ¬ b < x.toInt) (ho : offs[(x.toInt - a).toNat]? = some off) (ht : (pc : Int) + off = (tgt : Int)) (k : V P R Z lo tgt rest g cs sl) : V P R Z lo pc (.int x :: rest) g cs sl := by
  obtain ⟨p, l, e, s, m, args, below, meth, c, Q, nL⟩ := P
  exact fun ls H locs hl hw hS => lv_tableIn C.1 C.2.1 hdg h1 h2 ho ht (k ls H locs hl hw hS)
end VTB
theorem plM_I {g : MG} {p nl nf : Nat} {wd : Nat → Nat} (h5 : nf ≤ 5) (hot : otI (g 9)) {a : List (Nat × TS) × (Nat → Int32)} (h : plM g p nl nf wd = some a) : plI (wds wd p 0 nl) a.1 := by
  unfold plM at h
  split at h
  · cases h
  · have := plA_I h5 hot (wds wd p 0 nl) [] [] (moZ g) a ⟨rfl, fun i q hq => by simp at hq⟩ h
    rwa [List.nil_append] at this
def wdF (o : Option (List (Nat × TS) × (Nat → Int32))) : Int32 := match o with
  | none => -1
  | some a => flS a.1
def prT (g : MG) (wd : Nat → Nat) (p nl t : Nat) (o : Option (List (Nat × TS) × (Nat → Int32))) : Int32 := match o with
  | none => -1
  | some a => mx0 (sumI (fun k => g 5 (lfn a.1 k) * nI (szw (wd (4 * p + k)))) nl * g 10 t - flS a.1 * g 11 t)
theorem plQ_wd {o : Option (List (Nat × TS) × (Nat → Int32))} {r : Int32} {g' : MG} (h : plQ o r g') : r = wdF o := by
  cases o with
  | none => exact h
  | some a => exact h.1
def blkO (g : MG) (a : Nat) (v : Int32) : Int32 := if v = 0 then g 6 a else if v = 1 then g 6 a - g 7 a else g 8 a
def cdBlock (g : MG) (f k v : Int32) : Nat := if isFL g f k = false ∨ inB v 0 2 = false then 1 else 0
