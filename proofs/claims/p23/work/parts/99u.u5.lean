/-! THE LAW'S SHOP against the class: all of it -/
theorem ord_self (d : FP.Core.Datum) (h : d ≠ FP.Core.Datum.nan) : FP.Core.order d d = some Ordering.eq := by
  have e : ∀ a : Int, compare a a = Ordering.eq := fun a => by simp [compare, compareOfLessAndEq]
  cases d with
  | nan => exact absurd rfl h
  | inf s => unfold FP.Core.order; exact congrArg some (e _)
  | fin s c q => unfold FP.Core.order; exact congrArg some (e _)
theorem dec_nan {x : UInt64} (h : vf_n64 x) : FP.Core.decode FP.Core.b64 x.toNat ≠ FP.Core.Datum.nan := by
  unfold vf_n64 at h
  rw [UInt64.le_iff_toNat_le, UInt64.toNat_and] at h
  have h : x.toNat &&& (2 ^ 63 - 1) ≤ 2047 * 2 ^ 52 := h
  rw [Nat.and_two_pow_sub_one_eq_mod] at h
  have hx := x.toNat_lt
  generalize x.toNat = n at *
  have t1 : FP.Core.b64.tails = 4503599627370496 := by decide +kernel
  have t2 : FP.Core.b64.exps = 2048 := by decide +kernel
  unfold FP.Core.decode FP.Core.fieldE FP.Core.fieldT
  rw [t1, t2]
  split
  · next h1 =>
    split
    · exact fun z => by cases z
    · next h2 => omega
  · split
    · exact fun z => by cases z
    · exact fun z => by cases z
theorem dcmp_self {x : UInt64} (h : vf_n64 x) : cmpValue (FP.dcmp x x) .l = 0 := by
  unfold FP.dcmp FP.Core.dcmp FP.Core.cmp cmpValue
  rw [ord_self _ (dec_nan h)]
theorem n64_0 : vf_n64 FP.dconst0 := by unfold vf_n64; decide +kernel
theorem mean_n64 {s : MG} (hI : IvM s) : vf_n64 (anMean s) := by
  unfold anMean
  by_cases h : sumI (alO s) (npO s) = 0
  · rw [if_pos h]; exact n64_0
  · rw [if_neg h]; exact n64_div _ _ (al_div hI h)
theorem ct_eq {s : MG} (hI : IvM s) (hZ : IvZ s) {k : Nat} (hk : k < 7) : ctO s k = cT s (10 * nfO s) (npO s) k := by
  have hf5 := (IvM_nf hI).1
  rcases k with _ | _ | _ | _ | _ | _ | _ | k
  · exact (IvM_nf hI).2
  · exact (IvM_np hI).2
  · rfl
  · rfl
  · rfl
  · exact sumI_50 hf5 (fun j h1 h2 => (hZ j h1 h2).1)
  · exact sumI_50 hf5 (fun j h1 h2 => (hZ j h1 h2).2.1)
  · omega
