/-! DOUBLES; mean of the class and of the reference -/
def MDb (l : Launch) (y : MethodName) (cc : ByteArray) (maxL : Nat) (rm : Room) (Z : Zc) (as : List Value) (g : MG) (post : UInt64 → MG → Prop) : Prop := Met l y (wz y cc maxL (some .double)) rm (va_Pc as (fun U => Wd Z g U)) (va_Qd post (fun g' t => Wd Z g' t) (A0 Z.z)) rm.cells rm.slots (A0 Z.z)
theorem ent_d {l : Launch} {y : MethodName} {cc : ByteArray} {maxL : Nat} {rm : Room} {Z : Zc} {as : List Value} {g : MG} {post : UInt64 → MG → Prop} {own : String} {lo : Lo} (hy : plainName y.cls = true) (ho : y.cls = own) (hlen : (lg_sl as).length ≤ maxL) (hlo : loA (lv_args 0 as) maxL = lo)
    (body : ∀ P : Pm, P.2.1 = l → Cx P Z cc own → (∀ (pc : Nat) (lo' : Lo) (v : UInt64) (g' : MG), decode cc pc = .ok (.dreturn, 1) → post v g' → V P rm Z lo' pc [.double v] g' rm.cells rm.slots) → V P rm Z lo 0 [] g 0 0) : MDb l y cc maxL rm Z as g post := by
  refine Met.ofW (cc := cc) (maxL := maxL) (ret := some .double) hy rfl ?_
  intro p e s m args below meth c s₁ B hml hv
  obtain ⟨rfl, hw, hK, hz, hst⟩ := hv
  have hts : ∀ w ∈ wsG, w.before as.toArray s = true := fun w h => atoms_spec (ws := wz y cc maxL (some .double)) B.pre w (List.mem_cons_of_mem _ h)
  have hown : s.vm.findClass own = some m.cls := ho ▸ findClass_of_methodNamed B.named
  have hl := lv_entry as hlen
  rw [lg_entry_eq]
  generalize (lg_sl as ++ List.replicate (maxL - (lg_sl as).length) Slot.unset).toArray = ls at hl ⊢
  refine body (p, l, e, s, m, as.toArray, below, meth, c, _, maxL) rfl ⟨B.exec, B.bytes, hml, hown, hts, hK, hz, B.notSynchronized, hst⟩ ?_ ls s.heap [] (hlo ▸ Lv_of hl) hw va_S.rf
  intro pc lo' v g' hdg hp ls H locs hl hw' hS
  exact W.dret B.exec B.bytes B.returns (fun t ht hW => ⟨⟨v, g', rfl, hp, Wd_of hw' hK hz hst hS ht hW.alike⟩, hS.F ht⟩) hS.2.2 hdg B.notSynchronized
section VRD
variable {P : Pm} {R : Room} {Z : Zc} {cc : ByteArray} {own : String} {lo : Lo} {pc : Nat} {rest : List Value} {g : MG} {cs sl : Nat}
theorem v_dconst0 (C : Cx P Z cc own) (hdg : decode cc pc = .ok (.dconst 0, 1)) (kk : V P R Z lo (pc + 1) (.double FP.dconst0 :: rest) g cs sl) : V P R Z lo pc rest g cs sl := by
  obtain ⟨p, l, e, s, m, args, below, meth, c, Q, nL⟩ := P
  exact fun ls H locs hl hw hS => lv_dconst0 C.1 C.2.1 hdg (kk ls H locs hl hw hS)
theorem v_i2d (C : Cx P Z cc own) {x : Int32} (hdg : decode cc pc = .ok (.i2d, 1)) (kk : V P R Z lo (pc + 1) (.double (FP.i2d x) :: rest) g cs sl) : V P R Z lo pc (.int x :: rest) g cs sl := by
  obtain ⟨p, l, e, s, m, args, below, meth, c, Q, nL⟩ := P
  exact fun ls H locs hl hw hS => lv_i2d C.1 C.2.1 hdg (kk ls H locs hl hw hS)
theorem v_ddiv (C : Cx P Z cc own) {x y : UInt64} (hdg : decode cc pc = .ok (.ddiv, 1)) (hne : vf_n64 (FP.ddiv x y)) (kk : V P R Z lo (pc + 1) (.double (FP.ddiv x y) :: rest) g cs sl) : V P R Z lo pc (.double y :: .double x :: rest) g cs sl := by
  obtain ⟨p, l, e, s, m, args, below, meth, c, Q, nL⟩ := P
  exact fun ls H locs hl hw hS => lv_ddiv C.1 C.2.1 hdg hne (kk ls H locs hl hw hS)
end VRD
theorem n64_div (f l : Int32) (h : l.toInt ≠ 0) : vf_n64 (FP.ddiv (FP.i2d f) (FP.i2d l)) := by
  obtain ⟨h1, h2⟩ := Jvm.FP.Core.i2d_big h
  have h3 := Jvm.FP.Core.i2d_mag f
  have h4 := Jvm.FP.Core.ddiv_mag (a := FP.i2d f) (b := FP.i2d l) (K := 1056) (L := 1023) h3 h1 h2 (by decide) (by decide)
  unfold vf_n64
  rw [UInt64.le_iff_toNat_le, UInt64.toNat_and]
  show (FP.ddiv (FP.i2d f) (FP.i2d l)).toNat &&& (2 ^ 63 - 1) ≤ 2047 * 2 ^ 52
  rw [Nat.and_two_pow_sub_one_eq_mod]
  have h5 : (FP.ddiv (FP.i2d f) (FP.i2d l)).toNat % 2 ^ 63 < (1056 + (1074 - 52 - 1) - 1023 + 3) * 2 ^ 52 := h4
  omega
/-- letters and flaws of the posters that are set, of the first n -/
def alO (s : MG) (p : Nat) : Int32 := if s 15 p = 0 then 0 else ltsO s p
def anMean (s : MG) : UInt64 := if sumI (alO s) (npO s) = 0 then FP.dconst0 else FP.ddiv (FP.i2d (sumI (fun p => flO s p (nlO s p)) (npO s))) (FP.i2d (sumI (alO s) (npO s)))
theorem sumI_n {f : Nat → Int32} {b : Nat} : ∀ n, (∀ k, k < n → ∃ a, a ≤ b ∧ f k = nI a) → ∃ a, a ≤ b * n ∧ sumI f n = nI a := by
  intro n
  induction n with
  | zero => intro _; exact ⟨0, Nat.zero_le _, rfl⟩
  | succ n ih =>
    intro h
    obtain ⟨a, ha, e⟩ := ih (fun k hk => h k (by omega))
    obtain ⟨c, hc, e2⟩ := h n (by omega)
    exact ⟨a + c, by rw [Nat.mul_succ]; omega, by rw [sumI, e, e2, nI_add]⟩
theorem alO_n {s : MG} (hI : IvM s) {p : Nat} (hp : p < 6) : ∃ a, a ≤ 40 ∧ alO s p = nI a := by
  unfold alO
  split
  · exact ⟨0, Nat.zero_le _, rfl⟩
  · obtain ⟨a, ha, e⟩ := sumI_n (b := 10) (f := fun k => nI (szw (wdO s (4 * p + k)))) (nlO s p) (fun k _ => ⟨_, szw_le, rfl⟩)
    have := (IvM_nl hI hp).2
    exact ⟨a, by omega, e⟩
theorem al_n {s : MG} (hI : IvM s) : ∃ a, a ≤ 240 ∧ sumI (alO s) (npO s) = nI a := by
  have h6 := (IvM_np hI).1
  obtain ⟨a, ha, e⟩ := sumI_n (b := 40) (f := alO s) (npO s) (fun k hk => alO_n hI (by omega))
  exact ⟨a, by omega, e⟩
theorem al_div {s : MG} (hI : IvM s) (h : ¬ sumI (alO s) (npO s) = 0) : (sumI (alO s) (npO s)).toInt ≠ 0 := fun z => h ((i_eq _ _).mpr z)
set_option maxRecDepth 100000 in
theorem m_mean (l : Launch) (Z : Zc) (s g : MG) (hI : IvM s) (hF9 : IvF s) (hR : Rl s g) : MDb l yX3_mean cX3_mean 5 (rmz 8 240 0 0) Z [.ref (Z.ad 30)] g (fun r g' => r = anMean s ∧ g' = g) := by
  refine ent_d (own := RX3) (lo := [some (.ref (Z.ad 30)), none, none, none, none]) (by decide) rfl (by simp [lg_sl, Value.category]) rfl (fun P hl C ret => ?_)
  have hnf := (IvM_nf hI).2
  have hf5 := (IvM_nf hI).1
  have hnp := (IvM_np hI).2
  have hp6 := (IvM_np hI).1
  have hn2 : g 32 2 = nI (npO s) := hR.1.2.1.trans hnp
  have loop : ∀ (n : Nat) (q : Nat) (v : Option Value), npO s - q < n → q ≤ npO s → V P (rmz 8 240 0 0) Z [some (.ref (Z.ad 30)), some (.int (sumI (fun p => flO s p (nlO s p)) q)), some (.int (sumI (alO s) q)), some (.int (nI q)), v] 6 [] g 0 0 := by
    intro n
    induction n with
    | zero => intro q v hn hq; exact absurd hn (Nat.not_lt_zero _)
    | succ n ih =>
      intro q v hn hq
      refine v_iload_n C dX3_mean_6 rfl rfl ?_
      refine v_aload_n C dX3_mean_7 rfl rfl ?_
      refine v_get C inG3 rfl 1 (by decide) (tg1 67 rfl rfl) rfl cx_T rfl dX3_mean_8 ?_
      refine v_callVi (n := 0) (as := []) C (c_lsize _ Z 32 37 g cx_L2) (gv (tg1 97 rfl rfl) (tg1 98 rfl rfl) (tg1 99 rfl rfl) (tg1 4 rfl rfl) (tg1 100 rfl rfl)) (by decide +kernel) ⟨Nat.le_of_ble_eq_true rfl, Nat.le_of_ble_eq_true rfl⟩ rfl cx_L2 rfl rfl (Nat.le_of_ble_eq_true rfl) dX3_mean_11 ⟨Nat.le_of_ble_eq_true rfl, Nat.le_of_ble_eq_true rfl⟩ (fun r11 g11 hp11 => ?_)
      obtain ⟨rfl, hg11⟩ := hp11
      rw [hg11]
      refine v_topi (y := nI (npO s)) hn2 ?_
      refine v_icmp_ge (tgt := 60) C dX3_mean_14 (by decide) (fun h14 => ?_) (fun h14 => ?_)
      · have hkn : q = npO s := Nat.le_antisymm hq ((nI_leI (by omega) (by omega)).mp h14)
        refine v_lo (lo' := [some (.ref (Z.ad 30)), some (.int (sumI (fun p => flO s p (nlO s p)) (npO s))), some (.int (sumI (alO s) q)), some (.int (nI q)), v]) (by rw [hkn]) ?_
        refine v_lo (lo' := [some (.ref (Z.ad 30)), some (.int (sumI (fun p => flO s p (nlO s p)) (npO s))), some (.int (sumI (alO s) (npO s))), some (.int (nI q)), v]) (by rw [hkn]) ?_
        obtain ⟨aN, haN, eaN⟩ := al_n hI
        refine v_iload_n C dX3_mean_60 rfl rfl ?_
        refine v_if_le (tgt := 72) C dX3_mean_61 (by decide) (fun h61 => ?_) (fun h61 => ?_)
        · have hz : sumI (alO s) (npO s) = 0 := by rw [eaN] at h61 ⊢; rw [nI_z (by omega) h61]; rfl
          refine v_dconst0 C dX3_mean_72 ?_
          exact ret _ _ _ _ dX3_mean_73 ⟨by unfold anMean; rw [if_pos hz], rfl⟩
        · have hz : ¬ sumI (alO s) (npO s) = 0 := fun z => h61 (by rw [z]; decide)
          refine v_iload_n C dX3_mean_64 rfl rfl ?_
          refine v_i2d C dX3_mean_65 ?_
          refine v_iload_n C dX3_mean_66 rfl rfl ?_
          refine v_i2d C dX3_mean_67 ?_
          refine v_ddiv C dX3_mean_68 (n64_div _ _ (al_div hI hz)) ?_
          refine v_goto (tgt := 73) C dX3_mean_69 (by decide) ?_
          exact ret _ _ _ _ dX3_mean_73 ⟨by unfold anMean; rw [if_neg hz], rfl⟩
      · have hqn : q < npO s := Nat.lt_of_not_le fun z => h14 ((nI_leI (by omega) (by omega)).mpr z)
        have hP := PsP.mk hn2 hqn hp6
        obtain ⟨r12, r13, r15, r16, r14, rL⟩ := hR.2.2 q hqn
        have hm : g (100 + 10 * q + 1) 2 = nI (nlO s q) := r14.trans (IvM_nl hI (by omega)).1
        have hm4 := (IvM_nl hI (show q < 6 by omega)).2
        refine v_aload_n C dX3_mean_17 rfl rfl ?_
        refine v_get C inG3 rfl 1 (by decide) (tg1 67 rfl rfl) rfl cx_T rfl dX3_mean_18 ?_
        refine v_iload_n C dX3_mean_21 rfl rfl ?_
        refine v_callVq (n := 1) (as := [.int (nI q)]) C (c_lget _ Z 32 37 (npO s) q g cx_L2 hn2 hqn (by omega) (fun j => Z.ad (100 + 10 * j)) (cxE2 hn2)) (gv (tg1 169 rfl rfl) (tg1 170 rfl rfl) (tg1 171 rfl rfl) (tg1 4 rfl rfl) (tg1 172 rfl rfl)) (by decide +kernel) ⟨Nat.le_of_ble_eq_true rfl, Nat.le_of_ble_eq_true rfl⟩ rfl cx_L2 rfl rfl (Nat.le_of_ble_eq_true rfl) dX3_mean_22 ⟨Nat.le_of_ble_eq_true rfl, Nat.le_of_ble_eq_true rfl⟩ (fun r22 g22 hp22 => ?_)
        obtain ⟨rfl, hg22⟩ := hp22
        rw [hg22]
        refine v_st (st' := [.ref (Z.ad (100 + 10 * q))]) rfl ?_
        refine v_cast C rfl (tg1 183 rfl rfl) (cxP hP) dX3_mean_25 ?_
        refine v_astore (lo' := [some (.ref (Z.ad 30)), some (.int (sumI (fun p => flO s p (nlO s p)) q)), some (.int (sumI (alO s) q)), some (.int (nI q)), some (.ref (Z.ad (100 + 10 * q)))]) C dX3_mean_28 (Nat.le_of_ble_eq_true rfl) rfl rfl ?_
        refine v_aload C dX3_mean_30 rfl ?_
        refine v_get C inG2 rfl 3 (by decide) (tg3 96 rfl rfl) rfl (cxP hP) rfl dX3_mean_32 ?_
        refine v_if_eq (tgt := 54) C dX3_mean_35 (by decide) (fun h35 => ?_) (fun h35 => ?_)
        · have h15 : s 15 q = 0 := r15.symm.trans h35
          refine v_iinc (lo' := [some (.ref (Z.ad 30)), some (.int (sumI (fun p => flO s p (nlO s p)) q)), some (.int (sumI (alO s) q)), some (.int ((nI q) + 1)), some (.ref (Z.ad (100 + 10 * q)))]) C dX3_mean_54 rfl rfl rfl rfl ?_
          refine v_lo (lo' := [some (.ref (Z.ad 30)), some (.int (sumI (fun p => flO s p (nlO s p)) (q + 1))), some (.int (sumI (alO s) q)), some (.int ((nI q) + 1)), some (.ref (Z.ad (100 + 10 * q)))]) (by rw [show sumI (fun p => flO s p (nlO s p)) (q + 1) = sumI (fun p => flO s p (nlO s p)) q + flO s q (nlO s q) from rfl, show flO s q (nlO s q) = 0 by unfold flO; rw [if_neg (by rw [h15]; decide)], Int32.add_zero]) ?_
          refine v_lo (lo' := [some (.ref (Z.ad 30)), some (.int (sumI (fun p => flO s p (nlO s p)) (q + 1))), some (.int (sumI (alO s) (q + 1))), some (.int ((nI q) + 1)), some (.ref (Z.ad (100 + 10 * q)))]) (by rw [show sumI (alO s) (q + 1) = sumI (alO s) q + alO s q from rfl, show alO s q = 0 by unfold alO; rw [if_pos h15], Int32.add_zero]) ?_
          refine v_lo (lo' := [some (.ref (Z.ad 30)), some (.int (sumI (fun p => flO s p (nlO s p)) (q + 1))), some (.int (sumI (alO s) (q + 1))), some (.int (nI (q + 1))), some (.ref (Z.ad (100 + 10 * q)))]) (by rw [← nI_1 q]) ?_
          refine v_goto (tgt := 6) C dX3_mean_57 (by decide) ?_
          exact ih (q + 1) _ (by omega) (by omega)
        · have h15 : s 15 q = 1 := (IvM_01 hI (by omega)).resolve_left (fun z => h35 (r15.trans z))
          refine v_iload_n C dX3_mean_38 rfl rfl ?_
          refine v_aload C dX3_mean_39 rfl ?_
          refine v_callVi (n := 0) (as := []) C (c_cflaws _ Z q (nlO s q) g hP hm hm4) (gv (tg2 58 rfl rfl) (tg2 59 rfl rfl) (tg2 60 rfl rfl) (tg1 20 rfl rfl) (tg2 61 rfl rfl)) (by decide +kernel) ⟨Nat.le_of_ble_eq_true rfl, Nat.le_of_ble_eq_true rfl⟩ rfl (cxP hP) rfl rfl (Nat.le_of_ble_eq_true rfl) dX3_mean_41 ⟨Nat.le_of_ble_eq_true rfl, Nat.le_of_ble_eq_true rfl⟩ (fun r41 g41 hp41 => ?_)
          obtain ⟨rfl, hg41⟩ := hp41
          rw [hg41]
          refine v_topi (y := flO s q (nlO s q)) (Rl_fls hR hqn h15) ?_
          refine v_iadd C dX3_mean_44 ?_
          refine v_topi (y := sumI (fun p => flO s p (nlO s p)) (q + 1)) rfl ?_
          refine v_istore_n (lo' := [some (.ref (Z.ad 30)), some (.int (sumI (fun p => flO s p (nlO s p)) (q + 1))), some (.int (sumI (alO s) q)), some (.int (nI q)), some (.ref (Z.ad (100 + 10 * q)))]) C dX3_mean_45 rfl (Nat.le_of_ble_eq_true rfl) rfl rfl ?_
          refine v_iload_n C dX3_mean_46 rfl rfl ?_
          refine v_aload C dX3_mean_47 rfl ?_
          refine v_callVi (n := 0) (as := []) C (c_cletters _ Z q (nlO s q) g hP hm hm4) (gv (tg2 51 rfl rfl) (tg2 52 rfl rfl) (tg2 53 rfl rfl) (tg1 20 rfl rfl) (tg2 54 rfl rfl)) (by decide +kernel) ⟨Nat.le_of_ble_eq_true rfl, Nat.le_of_ble_eq_true rfl⟩ rfl (cxP hP) rfl rfl (Nat.le_of_ble_eq_true rfl) dX3_mean_49 ⟨Nat.le_of_ble_eq_true rfl, Nat.le_of_ble_eq_true rfl⟩ (fun r49 g49 hp49 => ?_)
          obtain ⟨rfl, hg49⟩ := hp49
          rw [hg49]
          refine v_topi (y := alO s q) (by rw [Rl_lts hR hqn]; unfold alO; rw [if_neg (by rw [h15]; decide)]) ?_
          refine v_iadd C dX3_mean_52 ?_
          refine v_topi (y := sumI (alO s) (q + 1)) rfl ?_
          refine v_istore_n (lo' := [some (.ref (Z.ad 30)), some (.int (sumI (fun p => flO s p (nlO s p)) (q + 1))), some (.int (sumI (alO s) (q + 1))), some (.int (nI q)), some (.ref (Z.ad (100 + 10 * q)))]) C dX3_mean_53 rfl (Nat.le_of_ble_eq_true rfl) rfl rfl ?_
          refine v_iinc (lo' := [some (.ref (Z.ad 30)), some (.int (sumI (fun p => flO s p (nlO s p)) (q + 1))), some (.int (sumI (alO s) (q + 1))), some (.int ((nI q) + 1)), some (.ref (Z.ad (100 + 10 * q)))]) C dX3_mean_54 rfl rfl rfl rfl ?_
          refine v_lo (lo' := [some (.ref (Z.ad 30)), some (.int (sumI (fun p => flO s p (nlO s p)) (q + 1))), some (.int (sumI (alO s) (q + 1))), some (.int (nI (q + 1))), some (.ref (Z.ad (100 + 10 * q)))]) (by rw [← nI_1 q]) ?_
          refine v_goto (tgt := 6) C dX3_mean_57 (by decide) ?_
          exact ih (q + 1) _ (by omega) (by omega)
  refine v_iconst (v := 0) C dX3_mean_0 (by decide) ?_
  refine v_topi (y := sumI (fun p => flO s p (nlO s p)) 0) rfl ?_
  refine v_istore_n (lo' := [some (.ref (Z.ad 30)), some (.int (sumI (fun p => flO s p (nlO s p)) 0)), none, none, none]) C dX3_mean_1 rfl (Nat.le_of_ble_eq_true rfl) rfl rfl ?_
  refine v_iconst (v := 0) C dX3_mean_2 (by decide) ?_
  refine v_topi (y := sumI (alO s) 0) rfl ?_
  refine v_istore_n (lo' := [some (.ref (Z.ad 30)), some (.int (sumI (fun p => flO s p (nlO s p)) 0)), some (.int (sumI (alO s) 0)), none, none]) C dX3_mean_3 rfl (Nat.le_of_ble_eq_true rfl) rfl rfl ?_
  refine v_iconst (v := 0) C dX3_mean_4 (by decide) ?_
  refine v_topi (y := nI 0) rfl ?_
  refine v_istore_n (lo' := [some (.ref (Z.ad 30)), some (.int (sumI (fun p => flO s p (nlO s p)) 0)), some (.int (sumI (alO s) 0)), some (.int (nI 0)), none]) C dX3_mean_5 rfl (Nat.le_of_ble_eq_true rfl) rfl rfl ?_
  exact loop (npO s + 1) 0 none (by omega) (by omega)
def PMd (g : MG) (an : UInt64) (st : MG) (r : UInt64) (g' : MG) : Prop := g' 0 0 = nI 0 ∧ r = an ∧ RE st g' ∧ ∀ q, 26 ≤ q → g' q = g q
