/-! THE REFERENCE: what would be, and what there is -/
section VTB
variable {P : Pm} {R : Room} {Z : Zc} {cc : ByteArray} {own : String} {lo : Lo} {pc : Nat} {rest : List Value} {g : MG} {cs sl : Nat}
theorem v_tabOut (C : Cx P Z cc own) {dflt a b : Int} {offs : Array Int} {len : Nat} {x : Int32} {tgt : Nat} (hdg : decode cc pc = .ok (.tableswitch dflt a b offs, len)) (h : x.toInt < a ∨ b < x.toInt) (ht : (pc : Int) + dflt = (tgt : Int)) (k : V P R Z lo tgt rest g cs sl) : V P R Z lo pc (.int x :: rest) g cs sl := by
  obtain ⟨p, l, e, s, m, args, below, meth, c, Q, nL⟩ := P
  exact fun ls H locs hl hw hS => lv_tableOut C.1 C.2.1 hdg h ht (k ls H locs hl hw hS)
theorem v_tabIn (C : Cx P Z cc own) {dflt a b : Int} {offs : Array Int} {len : Nat} {x : Int32} {off : Int} {tgt : Nat} (hdg : decode cc pc = .ok (.tableswitch dflt a b offs, len)) (h1 : ¬ x.toInt < a) (h2 : ¬ b < x.toInt) (ho : offs[(x.toInt - a).toNat]? = some off) (ht : (pc : Int) + off = (tgt : Int)) (k : V P R Z lo tgt rest g cs sl) : V P R Z lo pc (.int x :: rest) g cs sl := by
  obtain ⟨p, l, e, s, m, args, below, meth, c, Q, nL⟩ := P
  exact fun ls H locs hl hw hS => lv_tableIn C.1 C.2.1 hdg h1 h2 ho ht (k ls H locs hl hw hS)
end VTB
theorem plM_I {g : MG} {p nl nf : Nat} {wd : Nat → Nat} (h5 : nf ≤ 5) (hot : otI (g 9)) {a : List (Nat × TS) × (Nat → Int32)} (h : plM g p nl nf wd = some a) : plI (wds wd p 0 nl) a.1 := by
  unfold plM at h
  split at h
  · cases h
  · have := plA_I h5 hot (wds wd p 0 nl) [] [] (moZ g) a ⟨rfl, fun i q hq => by simp at hq⟩ h
    rwa [List.nil_append] at this
def wdF (o : Option (List (Nat × TS) × (Nat → Int32))) : Int32 := match o with
  | none => -1
  | some a => flS a.1
def prT (g : MG) (wd : Nat → Nat) (p nl t : Nat) (o : Option (List (Nat × TS) × (Nat → Int32))) : Int32 := match o with
  | none => -1
  | some a => mx0 (sumI (fun k => g 5 (lfn a.1 k) * nI (szw (wd (4 * p + k)))) nl * g 10 t - flS a.1 * g 11 t)
theorem plQ_wd {o : Option (List (Nat × TS) × (Nat → Int32))} {r : Int32} {g' : MG} (h : plQ o r g') : r = wdF o := by
  cases o with
  | none => exact h
  | some a => exact h.1
set_option maxRecDepth 100000 in
theorem c_proofTried (l : Launch) (Z : Zc) (p nl nf t : Nat) (wd : Nat → Nat) (g : MG) (hp : p < 6) (hot : otI (g 9)) (hnf : g 0 1 = nI nf) (h5 : nf ≤ 5) (hnl : g 14 p = nI nl) (h4 : nl ≤ 4) (hW : ∀ j, j < 24 → g 17 j = nI (wd j) ∧ wd j < 2 ^ 31) (ht : t < 4) (het : g 12 p = nI t) : MI l yX4_proofTried cX4_proofTried 5 (some .int) (rmz 4 100 0 0) Z [.ref (Z.ad 0), .int (nI p)] g (fun r g' => frP g g' ∧ r = prT g wd p nl t (plM g p nl nf wd)) := by
  refine ent_i (own := RX4) (lo := [some (.ref (Z.ad 0)), some (.int (nI p)), none, none, none]) (by decide) rfl (by simp [lg_sl, Value.category]) rfl (fun P hl C ret => ?_)
  refine v_aload_n C dX4_proofTried_0 rfl rfl ?_
  refine v_iload_n C dX4_proofTried_1 rfl rfl ?_
  refine v_callVi (n := 1) (as := [.int (nI p)]) C (c_tryPoster _ Z p nl nf wd g hp hot hnf h5 hnl h4 hW) (gv (tg4 96 rfl rfl) (tg4 98 rfl rfl) (tg0 23 rfl rfl) (tg1 6 rfl rfl) (tg4 99 rfl rfl)) (by decide +kernel) ⟨Nat.le_of_ble_eq_true rfl, Nat.le_of_ble_eq_true rfl⟩ rfl cx_M rfl rfl (Nat.le_of_ble_eq_true rfl) dX4_proofTried_2 ⟨Nat.le_of_ble_eq_true rfl, Nat.le_of_ble_eq_true rfl⟩ (fun r2 g2 hp2 => ?_)
  obtain ⟨hfr, hq⟩ := hp2
  cases ho : plM g p nl nf wd with
  | none =>
    rw [ho] at hq ret
    have hq : r2 = -1 := hq
    subst hq
    refine v_istore_n (lo' := [some (.ref (Z.ad 0)), some (.int (nI p)), some (.int (-1)), none, none]) C dX4_proofTried_5 rfl (Nat.le_of_ble_eq_true rfl) rfl rfl ?_
    refine v_iload_n C dX4_proofTried_6 rfl rfl ?_
    refine v_iconst (v := (-1)) C dX4_proofTried_7 (by decide) ?_
    refine v_icmp_ne (tgt := 13) C dX4_proofTried_8 (by decide) (fun h8 => ?_) (fun h8 => ?_)
    · exact absurd rfl h8
    · refine v_iconst (v := (-1)) C dX4_proofTried_11 (by decide) ?_
      exact ret _ _ _ _ dX4_proofTried_12 ⟨hfr, rfl⟩
  | some a =>
    obtain ⟨L, mo⟩ := a
    have hI := plM_I h5 hot ho
    rw [ho] at hq ret
    obtain ⟨hr2, -, hL⟩ := hq
    obtain ⟨Cf, hCf, hCe⟩ := plI_fl hI
    have hlen : L.length = nl := by rw [hI.1, wds_len]; omega
    subst hr2
    refine v_istore_n (lo' := [some (.ref (Z.ad 0)), some (.int (nI p)), some (.int (flS L)), none, none]) C dX4_proofTried_5 rfl (Nat.le_of_ble_eq_true rfl) rfl rfl ?_
    refine v_iload_n C dX4_proofTried_6 rfl rfl ?_
    refine v_iconst (v := (-1)) C dX4_proofTried_7 (by decide) ?_
    refine v_icmp_ne (tgt := 13) C dX4_proofTried_8 (by decide) (fun h8 => ?_) (fun h8 => ?_)
    · refine v_iconst (v := 0) C dX4_proofTried_13 (by decide) ?_
      refine v_topi (y := sumI (fun k => g 5 (lfn L k) * nI (szw (wd (4 * p + k)))) 0) rfl ?_
      refine v_istore_n (lo' := [some (.ref (Z.ad 0)), some (.int (nI p)), some (.int (flS L)), some (.int (sumI (fun k => g 5 (lfn L k) * nI (szw (wd (4 * p + k)))) 0)), none]) C dX4_proofTried_14 rfl (Nat.le_of_ble_eq_true rfl) rfl rfl ?_
      refine v_iconst (v := 0) C dX4_proofTried_15 (by decide) ?_
      refine v_topi (y := nI 0) rfl ?_
      refine v_istore (lo' := [some (.ref (Z.ad 0)), some (.int (nI p)), some (.int (flS L)), some (.int (sumI (fun k => g 5 (lfn L k) * nI (szw (wd (4 * p + k)))) 0)), some (.int (nI 0))]) C dX4_proofTried_16 (Nat.le_of_ble_eq_true rfl) rfl rfl ?_
      have loop : ∀ (n k : Nat), nl - k < n → k ≤ nl → V P (rmz 4 100 0 0) Z [some (.ref (Z.ad 0)), some (.int (nI p)), some (.int (flS L)), some (.int (sumI (fun k => g 5 (lfn L k) * nI (szw (wd (4 * p + k)))) k)), some (.int (nI k))] 18 [] g2 0 0 := by
        intro n
        induction n with
        | zero => intro k hn; exact absurd hn (Nat.not_lt_zero _)
        | succ n ih =>
          intro k hn hk
          refine v_iload C dX4_proofTried_18 rfl ?_
          refine v_aload_n C dX4_proofTried_20 rfl rfl ?_
          refine v_get C inG4 rfl 14 (by decide) (tg3 209 rfl rfl) rfl cx_M rfl dX4_proofTried_21 ?_
          refine v_iload_n C dX4_proofTried_24 rfl rfl ?_
          refine v_ialdN (a := p) C cxA14 ⟨hp, by decide⟩ dX4_proofTried_25 ?_
          refine v_topi (y := nI nl) (by rw [hfr.1 14 (by omega) (by decide)]; exact hnl) ?_
          refine v_icmp_ge (tgt := 65) C dX4_proofTried_26 (by decide) (fun h26 => ?_) (fun h26 => ?_)
          · have hkn : k = nl := Nat.le_antisymm hk ((nI_leI (by omega) (by omega)).mp h26)
            refine v_lo (lo' := [some (.ref (Z.ad 0)), some (.int (nI p)), some (.int (flS L)), some (.int (sumI (fun k => g 5 (lfn L k) * nI (szw (wd (4 * p + k)))) nl)), some (.int (nI k))]) (by rw [hkn]) ?_
            refine v_aload_n C dX4_proofTried_65 rfl rfl ?_
            refine v_iload_n C dX4_proofTried_66 rfl rfl ?_
            refine v_iload_n C dX4_proofTried_67 rfl rfl ?_
            refine v_iload_n C dX4_proofTried_68 rfl rfl ?_
            refine v_callVi (n := 3) (as := [.int (nI p), .int (sumI (fun k => g 5 (lfn L k) * nI (szw (wd (4 * p + k)))) nl), .int (flS L)]) C (c_worth _ Z p t (sumI (fun k => g 5 (lfn L k) * nI (szw (wd (4 * p + k)))) nl) (flS L) g2 hp ht (by rw [hfr.1 12 (by omega) (by decide)]; exact het)) (gv (tg4 139 rfl rfl) (tg4 141 rfl rfl) (tg0 31 rfl rfl) (tg1 6 rfl rfl) (tg4 142 rfl rfl)) (by decide +kernel) ⟨Nat.le_of_ble_eq_true rfl, Nat.le_of_ble_eq_true rfl⟩ rfl cx_M rfl rfl (Nat.le_of_ble_eq_true rfl) dX4_proofTried_69 ⟨Nat.le_of_ble_eq_true rfl, Nat.le_of_ble_eq_true rfl⟩ (fun r69 g69 hp69 => ?_)
            obtain ⟨rfl, hg69⟩ := hp69
            rw [hg69]
            exact ret _ _ _ _ dX4_proofTried_72 ⟨hfr, by rw [hfr.1 10 (by omega) (by decide), hfr.1 11 (by omega) (by decide)]; rfl⟩
          · have hkn : k < nl := Nat.lt_of_not_le fun q => h26 ((nI_leI (by omega) (by omega)).mpr q)
            obtain ⟨q, hq⟩ : ∃ q, L[k]? = some q := ⟨_, List.getElem?_eq_getElem (by omega)⟩
            have hqf : lfn L k = q.1 := by unfold lfn; rw [hq]
            have hq5 : lfn L k < 5 := by rw [hqf]; exact (hI.2 k q hq).1
            refine v_iload_n C dX4_proofTried_29 rfl rfl ?_
            refine v_aload_n C dX4_proofTried_30 rfl rfl ?_
            refine v_get C inG4 rfl 5 (by decide) (tg3 200 rfl rfl) rfl cx_M rfl dX4_proofTried_31 ?_
            refine v_aload_n C dX4_proofTried_34 rfl rfl ?_
            refine v_get C inG4 rfl 22 (by decide) (tg3 217 rfl rfl) rfl cx_M rfl dX4_proofTried_35 ?_
            refine v_iload C dX4_proofTried_38 rfl ?_
            refine v_ialdN (a := k) C cxA22 (by omega) dX4_proofTried_40 ?_
            refine v_topi (y := nI (lfn L k)) (by rw [hqf]; exact (hL k q hq).1) ?_
            refine v_ialdN (a := (lfn L k)) C cxA5 (by omega) dX4_proofTried_41 ?_
            refine v_topi (y := g 5 (lfn L k)) (by rw [hfr.1 5 (by omega) (by decide)]) ?_
            refine v_aload_n C dX4_proofTried_42 rfl rfl ?_
            refine v_get C inG4 rfl 17 (by decide) (tg3 212 rfl rfl) rfl cx_M rfl dX4_proofTried_43 ?_
            refine v_iconst (v := 4) C dX4_proofTried_46 (by decide) ?_
            refine v_iload_n C dX4_proofTried_47 rfl rfl ?_
            refine v_imul C dX4_proofTried_48 ?_
            refine v_topi (y := nI (4 * p)) (by rw [show (4 : Int32) = nI 4 from rfl, nI_mul]) ?_
            refine v_iload C dX4_proofTried_49 rfl ?_
            refine v_iadd C dX4_proofTried_51 ?_
            refine v_topi (y := nI (4 * p + k)) (nI_add _ _) ?_
            refine v_ialdN (a := (4 * p + k)) C cxA17 (by omega) dX4_proofTried_52 ?_
            refine v_topi (y := nI (wd (4 * p + k))) (by rw [hfr.1 17 (by omega) (by decide)]; exact (hW _ (by omega)).1) ?_
            refine v_callSi (n := 1) (as := [.int (nI (wd (4 * p + k)))]) C (c_size _ Z (wd (4 * p + k)) g2 (hW _ (by omega)).2) (gs (tg4 108 rfl rfl) (tg4 109 rfl rfl) (tg1 6 rfl rfl) (tg4 110 rfl rfl)) (by decide +kernel) ⟨Nat.le_of_ble_eq_true rfl, Nat.le_of_ble_eq_true rfl⟩ rfl rfl (Nat.le_of_ble_eq_true rfl) dX4_proofTried_53 ⟨Nat.le_of_ble_eq_true rfl, Nat.le_of_ble_eq_true rfl⟩ (fun r53 g53 hp53 => ?_)
            obtain ⟨rfl, hg53⟩ := hp53
            rw [hg53]
            refine v_imul C dX4_proofTried_56 ?_
            refine v_iadd C dX4_proofTried_57 ?_
            refine v_topi (y := sumI (fun k => g 5 (lfn L k) * nI (szw (wd (4 * p + k)))) (k + 1)) rfl ?_
            refine v_istore_n (lo' := [some (.ref (Z.ad 0)), some (.int (nI p)), some (.int (flS L)), some (.int (sumI (fun k => g 5 (lfn L k) * nI (szw (wd (4 * p + k)))) (k + 1))), some (.int (nI k))]) C dX4_proofTried_58 rfl (Nat.le_of_ble_eq_true rfl) rfl rfl ?_
            refine v_iinc (lo' := [some (.ref (Z.ad 0)), some (.int (nI p)), some (.int (flS L)), some (.int (sumI (fun k => g 5 (lfn L k) * nI (szw (wd (4 * p + k)))) (k + 1))), some (.int ((nI k) + 1))]) C dX4_proofTried_59 rfl rfl rfl rfl ?_
            refine v_lo (lo' := [some (.ref (Z.ad 0)), some (.int (nI p)), some (.int (flS L)), some (.int (sumI (fun k => g 5 (lfn L k) * nI (szw (wd (4 * p + k)))) (k + 1))), some (.int (nI (k + 1)))]) (by rw [← nI_1 k]) ?_
            refine v_goto (tgt := 18) C dX4_proofTried_62 (by decide) ?_
            exact ih (k + 1) (by omega) (by omega)
      exact loop (nl + 1) 0 (by omega) (by omega)
    · exact absurd h8 (by rw [hCe]; exact nI_m1 (by rw [hlen] at hCf; omega))
def blkO (g : MG) (a : Nat) (v : Int32) : Int32 := if v = 0 then g 6 a else if v = 1 then g 6 a - g 7 a else g 8 a
set_option maxRecDepth 100000 in
theorem c_blockTold (l : Launch) (Z : Zc) (a : Nat) (v : Int32) (g : MG) (ha : a < 50) : MI l yX4_blockTold cX4_blockTold 3 (some .int) (rmz 0 0 0 0) Z [.ref (Z.ad 0), .int (nI a), .int v] g (fun r g' => r = blkO g a v ∧ g' = g) := by
  refine ent_i (own := RX4) (lo := [some (.ref (Z.ad 0)), some (.int (nI a)), some (.int v)]) (by decide) rfl (by simp [lg_sl, Value.category]) rfl (fun P hl C ret => ?_)
  refine v_iload_n C dX4_blockTold_0 rfl rfl ?_
  refine v_if_ne (tgt := 13) C dX4_blockTold_1 (by decide) (fun h1 => ?_) (fun h1 => ?_)
  · refine v_iload_n C dX4_blockTold_13 rfl rfl ?_
    refine v_iconst (v := 1) C dX4_blockTold_14 (by decide) ?_
    refine v_icmp_ne (tgt := 34) C dX4_blockTold_15 (by decide) (fun h15 => ?_) (fun h15 => ?_)
    · refine v_aload_n C dX4_blockTold_34 rfl rfl ?_
      refine v_get C inG4 rfl 8 (by decide) (tg3 203 rfl rfl) rfl cx_M rfl dX4_blockTold_35 ?_
      refine v_iload_n C dX4_blockTold_38 rfl rfl ?_
      refine v_ialdN (a := a) C cxA8 ⟨ha, by decide⟩ dX4_blockTold_39 ?_
      exact ret _ _ _ _ dX4_blockTold_40 ⟨by simp [blkO, h1, h15], rfl⟩
    · refine v_aload_n C dX4_blockTold_18 rfl rfl ?_
      refine v_get C inG4 rfl 6 (by decide) (tg3 201 rfl rfl) rfl cx_M rfl dX4_blockTold_19 ?_
      refine v_iload_n C dX4_blockTold_22 rfl rfl ?_
      refine v_ialdN (a := a) C cxA6 ⟨ha, by decide⟩ dX4_blockTold_23 ?_
      refine v_aload_n C dX4_blockTold_24 rfl rfl ?_
      refine v_get C inG4 rfl 7 (by decide) (tg3 202 rfl rfl) rfl cx_M rfl dX4_blockTold_25 ?_
      refine v_iload_n C dX4_blockTold_28 rfl rfl ?_
      refine v_ialdN (a := a) C cxA7 ⟨ha, by decide⟩ dX4_blockTold_29 ?_
      refine v_isub C dX4_blockTold_30 ?_
      refine v_goto (tgt := 40) C dX4_blockTold_31 (by decide) ?_
      exact ret _ _ _ _ dX4_blockTold_40 ⟨by simp [blkO, h1, h15], rfl⟩
  · refine v_aload_n C dX4_blockTold_4 rfl rfl ?_
    refine v_get C inG4 rfl 6 (by decide) (tg3 201 rfl rfl) rfl cx_M rfl dX4_blockTold_5 ?_
    refine v_iload_n C dX4_blockTold_8 rfl rfl ?_
    refine v_ialdN (a := a) C cxA6 ⟨ha, by decide⟩ dX4_blockTold_9 ?_
    refine v_goto (tgt := 40) C dX4_blockTold_10 (by decide) ?_
    exact ret _ _ _ _ dX4_blockTold_40 ⟨by simp [blkO, h1], rfl⟩
def cdBlock (g : MG) (f k v : Int32) : Nat := if isFL g f k = false ∨ inB v 0 2 = false then 1 else 0
set_option maxRecDepth 100000 in
theorem c_block (l : Launch) (Z : Zc) (f k v : Int32) (g : MG) (hI : IvM g) : MI l yX4_block cX4_block 4 (some .int) (rmz 2 43 0 0) Z [.ref (Z.ad 0), .int f, .int k, .int v] g (PM g (cdBlock g f k v) (blkO g (atO f k) v) (g)) := by
  refine ent_i (own := RX4) (lo := [some (.ref (Z.ad 0)), some (.int f), some (.int k), some (.int v)]) (by decide) rfl (by simp [lg_sl, Value.category]) rfl (fun P hl C ret => ?_)
  obtain ⟨⟨nf, hf5, hnf⟩, ⟨np, hp6, hnp⟩, hot, hnl, htn, his, hwd, htk⟩ := id hI
  have enf : nfO g = nf := by unfold nfO; rw [hnf]; exact iz_nI (by omega)
  have enp : npO g = np := by unfold npO; rw [hnp]; exact iz_nI (by omega)
  refine v_aload_n C dX4_block_0 rfl rfl ?_
  refine v_iconst (v := 0) C dX4_block_1 (by decide) ?_
  refine v_put C inG4 rfl tyX4 tyX4_ok nmX4 0 (by decide) (tg3 195 rfl rfl) rfl rfl (ty := .int) rfl rfl rfl cx_M (Nat.le_of_ble_eq_true rfl) rfl (by omega) cx_M dX4_block_2 ?_
  refine v_aload_n C dX4_block_5 rfl rfl ?_
  refine v_iload_n C dX4_block_6 rfl rfl ?_
  refine v_callVi (n := 1) (as := [.int f]) C (c_isFount _ Z nf f (wr g 0 0 0) hnf hf5) (gv (tg4 56 rfl rfl) (tg4 58 rfl rfl) (tg0 21 rfl rfl) (tg1 6 rfl rfl) (tg4 59 rfl rfl)) (by decide +kernel) ⟨Nat.le_of_ble_eq_true rfl, Nat.le_of_ble_eq_true rfl⟩ rfl cx_M rfl rfl (Nat.le_of_ble_eq_true rfl) dX4_block_7 ⟨Nat.le_of_ble_eq_true rfl, Nat.le_of_ble_eq_true rfl⟩ (fun r7 g7 hp7 => ?_)
  obtain ⟨rfl, hg7⟩ := hp7
  rw [hg7]
  refine v_if_eq (tgt := 43) C dX4_block_10 (by decide) (fun h10 => ?_) (fun h10 => ?_)
  · have k10 := bI_0.mp h10
    refine v_aload_n C dX4_block_43 rfl rfl ?_
    refine v_iconst (v := 1) C dX4_block_44 (by decide) ?_
    refine v_callVi (n := 1) (as := [.int 1]) C (c_no _ Z 1 (wr g 0 0 0)) (gv (tg4 48 rfl rfl) (tg4 50 rfl rfl) (tg0 20 rfl rfl) (tg1 6 rfl rfl) (tg4 51 rfl rfl)) (by decide +kernel) ⟨Nat.le_of_ble_eq_true rfl, Nat.le_of_ble_eq_true rfl⟩ rfl cx_M rfl rfl (Nat.le_of_ble_eq_true rfl) dX4_block_45 ⟨Nat.le_of_ble_eq_true rfl, Nat.le_of_ble_eq_true rfl⟩ (fun r45 g45 hp45 => ?_)
    obtain ⟨rfl, hg45⟩ := hp45
    rw [hg45]
    exact ret _ _ _ _ dX4_block_48 (PM.no (k := 1) (by unfold cdBlock isFL; rw [enf, if_pos (Or.inl (by rw [k10]; rfl))]) (by decide) rfl (fun j h1 h2 => wr_ne _ _ _ _ (Or.inr (by omega))) (fun q h1 h2 => wr_row _ _ _ _ (by omega)) (fun q hq => wr_row _ _ _ _ (by omega)))
  · have k10 := bI_1.mp h10
    refine v_iload_n C dX4_block_13 rfl rfl ?_
    refine v_callSi (n := 1) (as := [.int k]) C (c_isLetter _ Z k (wr g 0 0 0)) (gs (tg4 60 rfl rfl) (tg4 61 rfl rfl) (tg1 6 rfl rfl) (tg4 62 rfl rfl)) (by decide +kernel) ⟨Nat.le_of_ble_eq_true rfl, Nat.le_of_ble_eq_true rfl⟩ rfl rfl (Nat.le_of_ble_eq_true rfl) dX4_block_14 ⟨Nat.le_of_ble_eq_true rfl, Nat.le_of_ble_eq_true rfl⟩ (fun r14 g14 hp14 => ?_)
    obtain ⟨rfl, hg14⟩ := hp14
    rw [hg14]
    refine v_if_eq (tgt := 43) C dX4_block_17 (by decide) (fun h17 => ?_) (fun h17 => ?_)
    · have k17 := bI_0.mp h17
      refine v_aload_n C dX4_block_43 rfl rfl ?_
      refine v_iconst (v := 1) C dX4_block_44 (by decide) ?_
      refine v_callVi (n := 1) (as := [.int 1]) C (c_no _ Z 1 (wr g 0 0 0)) (gv (tg4 48 rfl rfl) (tg4 50 rfl rfl) (tg0 20 rfl rfl) (tg1 6 rfl rfl) (tg4 51 rfl rfl)) (by decide +kernel) ⟨Nat.le_of_ble_eq_true rfl, Nat.le_of_ble_eq_true rfl⟩ rfl cx_M rfl rfl (Nat.le_of_ble_eq_true rfl) dX4_block_45 ⟨Nat.le_of_ble_eq_true rfl, Nat.le_of_ble_eq_true rfl⟩ (fun r45 g45 hp45 => ?_)
      obtain ⟨rfl, hg45⟩ := hp45
      rw [hg45]
      exact ret _ _ _ _ dX4_block_48 (PM.no (k := 1) (by unfold cdBlock isFL; rw [enf, if_pos (Or.inl (by rw [k10, k17]; rfl))]) (by decide) rfl (fun j h1 h2 => wr_ne _ _ _ _ (Or.inr (by omega))) (fun q h1 h2 => wr_row _ _ _ _ (by omega)) (fun q hq => wr_row _ _ _ _ (by omega)))
    · have k17 := bI_1.mp h17
      refine v_iload_n C dX4_block_20 rfl rfl ?_
      refine v_iconst (v := 0) C dX4_block_21 (by decide) ?_
      refine v_iconst (v := 2) C dX4_block_22 (by decide) ?_
      refine v_callSi (n := 3) (as := [.int v, .int 0, .int 2]) C (c_isIn _ Z v 0 2 (wr g 0 0 0)) (gs (tg4 45 rfl rfl) (tg4 46 rfl rfl) (tg1 6 rfl rfl) (tg4 47 rfl rfl)) (by decide +kernel) ⟨Nat.le_of_ble_eq_true rfl, Nat.le_of_ble_eq_true rfl⟩ rfl rfl (Nat.le_of_ble_eq_true rfl) dX4_block_23 ⟨Nat.le_of_ble_eq_true rfl, Nat.le_of_ble_eq_true rfl⟩ (fun r23 g23 hp23 => ?_)
      obtain ⟨rfl, hg23⟩ := hp23
      rw [hg23]
      refine v_if_eq (tgt := 43) C dX4_block_26 (by decide) (fun h26 => ?_) (fun h26 => ?_)
      · have k26 := bI_0.mp h26
        refine v_aload_n C dX4_block_43 rfl rfl ?_
        refine v_iconst (v := 1) C dX4_block_44 (by decide) ?_
        refine v_callVi (n := 1) (as := [.int 1]) C (c_no _ Z 1 (wr g 0 0 0)) (gv (tg4 48 rfl rfl) (tg4 50 rfl rfl) (tg0 20 rfl rfl) (tg1 6 rfl rfl) (tg4 51 rfl rfl)) (by decide +kernel) ⟨Nat.le_of_ble_eq_true rfl, Nat.le_of_ble_eq_true rfl⟩ rfl cx_M rfl rfl (Nat.le_of_ble_eq_true rfl) dX4_block_45 ⟨Nat.le_of_ble_eq_true rfl, Nat.le_of_ble_eq_true rfl⟩ (fun r45 g45 hp45 => ?_)
        obtain ⟨rfl, hg45⟩ := hp45
        rw [hg45]
        exact ret _ _ _ _ dX4_block_48 (PM.no (k := 1) (by unfold cdBlock; rw [if_pos (Or.inr k26)]) (by decide) rfl (fun j h1 h2 => wr_ne _ _ _ _ (Or.inr (by omega))) (fun q h1 h2 => wr_row _ _ _ _ (by omega)) (fun q hq => wr_row _ _ _ _ (by omega)))
      · have k26 := bI_1.mp h26
        have hcd : cdBlock g f k v = 0 := by unfold cdBlock isFL; rw [enf, if_neg (by rw [k10, k17, k26]; decide)]
        obtain ⟨a, ha, rfl⟩ := isN_ex k10
        obtain ⟨c, hc, rfl⟩ := isN_ex k17
        have eat : atO (nI a) (nI c) = 10 * a + c := atO_nI (by omega) hc
        refine v_aload_n C dX4_block_29 rfl rfl ?_
        refine v_bipush (v := 10) C dX4_block_30 (by decide) ?_
        refine v_iload_n C dX4_block_32 rfl rfl ?_
        refine v_imul C dX4_block_33 ?_
        refine v_iload_n C dX4_block_34 rfl rfl ?_
        refine v_iadd C dX4_block_35 ?_
        refine v_topi (y := nI (10 * a + c)) (nI_10 a c) ?_
        refine v_iload_n C dX4_block_36 rfl rfl ?_
        refine v_callVi (n := 2) (as := [.int (nI (10 * a + c)), .int v]) C (c_blockTold _ Z (10 * a + c) v (wr g 0 0 0) (by omega)) (gv (tg4 152 rfl rfl) (tg4 154 rfl rfl) (tg0 32 rfl rfl) (tg1 6 rfl rfl) (tg4 155 rfl rfl)) (by decide +kernel) ⟨Nat.le_of_ble_eq_true rfl, Nat.le_of_ble_eq_true rfl⟩ rfl cx_M rfl rfl (Nat.le_of_ble_eq_true rfl) dX4_block_37 ⟨Nat.le_of_ble_eq_true rfl, Nat.le_of_ble_eq_true rfl⟩ (fun r37 g37 hp37 => ?_)
        obtain ⟨hr37, hg37⟩ := hp37
        rw [hg37]
        have hr37 : r37 = blkO g (10 * a + c) v := hr37
        subst hr37
        refine v_goto (tgt := 48) C dX4_block_40 (by decide) ?_
        exact ret _ _ _ _ dX4_block_48 ⟨by rw [hcd]; rfl, fun _ => by rw [eat], RE.of (fun j h1 h2 => wr_ne _ _ _ _ (Or.inr (by omega))) (fun q h1 h2 => wr_row _ _ _ _ (by omega)), fun q hq => wr_row _ _ _ _ (by omega)⟩
