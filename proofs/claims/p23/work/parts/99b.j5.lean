/-! THE JDK'S TEXTS: the tables of digits -/
def TabB (P : Pm) (z : Nat) (f : Nat → Value) (t : Nat) : Prop := match P with
  | (_, _, _, s, _, _, _, _, _, _, _) => va_T .byte t 100 f (A0 z) s s.heap
section LJ5
variable {P : Pm} {R : Room} {Z : Zc} {cc : ByteArray} {own : String} {lo : Lo} {pc : Nat} {rest st : List Value} {g : MG} {cs sl : Nat} {ad : Nat → Nat} {m : MG} {T : Nat}
theorem j_ones (C : Cx P Z cc own) (hW9 : CxW P Z) {index : Nat} (hlink : Cond.fieldLink own index "java/lang/Integer" "DigitOnes" "[B" ∈ wsG) (hdg : decode cc pc = .ok (.getstatic index, 3)) (kk : ∀ t, TabB P Z.z onesF t → V P R (Z.wl ad m) lo (pc + 3) (.ref t :: st) g cs sl) : V P R (Z.wl ad m) lo pc st g cs sl := by
  obtain ⟨p, l, e, s, mm, args, below, meth, c, Q, nL⟩ := P
  have hW9 : StrA s ∧ StrL s ∧ StaL Z.2.2.2.2 s s.heap := hW9
  obtain ⟨t, h1, h2⟩ := hW9.2.2.2.2.1
  exact fun ls H locs hl hw hS => va_gets C.1 C.2.1 h1 hS C.2.2.2.1 (C.2.2.2.2.1 _ hlink) (fun x h => h) hdg (kk t h2 ls H locs hl hw hS)
theorem j_tens (C : Cx P Z cc own) (hW9 : CxW P Z) {index : Nat} (hlink : Cond.fieldLink own index "java/lang/Integer" "DigitTens" "[B" ∈ wsG) (hdg : decode cc pc = .ok (.getstatic index, 3)) (kk : ∀ t, TabB P Z.z tensF t → V P R (Z.wl ad m) lo (pc + 3) (.ref t :: st) g cs sl) : V P R (Z.wl ad m) lo pc st g cs sl := by
  obtain ⟨p, l, e, s, mm, args, below, meth, c, Q, nL⟩ := P
  have hW9 : StrA s ∧ StrL s ∧ StaL Z.2.2.2.2 s s.heap := hW9
  obtain ⟨t, h1, h2⟩ := hW9.2.2.2.1
  exact fun ls H locs hl hw hS => va_gets C.1 C.2.1 h1 hS C.2.2.2.1 (C.2.2.2.2.1 _ hlink) (fun x h => h) hdg (kk t h2 ls H locs hl hw hS)
theorem j_tld (C : Cx P Z cc own) {f : Nat → Value} {t k : Nat} {v : Int32} (hT : TabB P Z.z f t) (hk : k < 100) (hv : f k = .int v) (hdg : decode cc pc = .ok (.baload, 1)) (kk : V P R (Z.wl ad m) lo (pc + 1) (.int v :: rest) g cs sl) : V P R (Z.wl ad m) lo pc (.int (nI k) :: .ref t :: rest) g cs sl := by
  obtain ⟨p, l, e, s, mm, args, below, meth, c, Q, nL⟩ := P
  exact fun ls H locs hl hw hS => va_tb (A := A0 Z.z) C.1 C.2.1 hT hS (vp_in_nI hk (by omega)) (v := .int v) (by rw [nI_clamp (by omega)]; exact hv) hdg (kk ls H locs hl hw hS)
end LJ5
theorem ones_v (k : Nat) : onesF k = .int (nI (48 + k % 10)) := rfl
theorem tens_v (k : Nat) : tensF k = .int (nI (48 + k / 10)) := rfl
theorem b_nar7 : ∀ b, b < 128 → vp_nar .byte (nI b) = nI b := by decide +kernel
