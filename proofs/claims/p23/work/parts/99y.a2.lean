/-! THE LAW'S act: buy -/
set_option maxRecDepth 100000 in
theorem act_buy {P : Pm} {Z : Zc} {ad : Nat → Nat} {N : Nat} {s m g : MG} (hP9 : P.2.1.stackTraces = false) (C : Cx P Z cL_act "PosterTypesLaw") (hW9 : CxW P Z) (hT : CxT P hhA) (hN : N + 1 ≤ 2048) (hE : LE N s) (hR : SimR s m) (hF : Fr m 900) (hRl : Rl s g) (x : Int32) (f k p : Nat) (hf : f < nfO s) (hk : k < 10) (hp : p < npO s) (ret : RetA P Z ad N s)  : V P RA (Z.wl ad m) [some (.ref (ad 30)), some (.ref (ad 600)), some (.int x), some (.int (nI f)), some (.int (nI k)), some (.int (nI p)), some (.ref (ad (700 + 20 * p))), none, none, none, none, none, none, none, none] 168 [] g 0 0 := by
  have hI := hE.1.1
  have hf5 := (IvM_nf hI).1
  have hp6 := (IvM_np hI).1
  have h4 := (IvM_nl hI (show p < 6 by omega)).2
  obtain ⟨hPF, hPL, hPX⟩ := hR.L hp
  refine v_iconst (v := 1) (C.wl _ _) dL_act_168 (by decide) ?_
  refine v_iload_n (C.wl _ _) dL_act_169 rfl rfl ?_
  refine v_bipush (v := 8) (C.wl _ _) dL_act_170 (by decide) ?_
  refine v_ishr (C.wl _ _) dL_act_172 ?_
  refine v_iconst (v := 3) (C.wl _ _) dL_act_173 (by decide) ?_
  refine v_callSi (n := 2) (as := [.int (x >>> (8 &&& 31)), .int (nI 3)]) (C.wl _ _) (l_below _ Z ad m (x >>> (8 &&& 31)) 3 ⟨by omega, by omega⟩ g) (gs (tg3 17 rfl rfl) (tg3 18 rfl rfl) (tg1 0 rfl rfl) (tg3 19 rfl rfl)) (by decide +kernel) ⟨Nat.le_of_ble_eq_true rfl, Nat.le_of_ble_eq_true rfl⟩ rfl rfl (Nat.le_of_ble_eq_true rfl) dL_act_174 ⟨(by show 0 + 0 ≤ 70; omega), (by show 0 + 0 ≤ 700; omega)⟩ (fun r174 gg174 hp174 => ?_)
  obtain ⟨hr174, hgg174⟩ := hp174
  rw [hr174, hgg174]
  have bv : bwN (x >>> (8 &&& 31)) 3 < 3 := bwN_lt _ (by omega)
  generalize bwN (x >>> (8 &&& 31)) 3 = v at bv ⊢
  refine v_iadd (C.wl _ _) dL_act_177 ?_
  refine v_topi (y := nI (1 + v)) (by rw [show (1 : Int32) = nI 1 from rfl, nI_add]) ?_
  obtain ⟨b, hb9, hbe⟩ := bl_9 hE (show 10 * f + k < 50 by omega)
  have hb0 : m (620 + (10 * f + k)) 0 = nI b := by rw [← Nat.add_assoc]; exact (hR.2.2.1 f k hf hk).2.1.trans hbe
  have hcv := cdBuy_v hI hf hk (v := 1 + v) ⟨by omega, by omega⟩ hb9 hbe
  refine v_istore (lo' := [some (.ref (ad 30)), some (.ref (ad 600)), some (.int x), some (.int (nI f)), some (.int (nI k)), some (.int (nI p)), some (.ref (ad (700 + 20 * p))), none, none, some (.int (nI (1 + v))), none, none, none, none, none]) (C.wl _ _) dL_act_178 (Nat.le_of_ble_eq_true rfl) rfl rfl ?_
  refine v_aload_n (C.wl _ _) dL_act_180 rfl rfl ?_
  refine l_get (k := 600) C inG5 (ci := 6) rfl 3 (by decide) (tg5 8 rfl rfl) rfl ⟨by decide, by decide⟩ (cW_6 hR.1.1) (sm_r (by decide) hR.1.2.2.2.2.1 ⟨by decide, by decide⟩) dL_act_181 ?_
  refine v_iload_n (C.wl _ _) dL_act_184 rfl rfl ?_
  refine l_aald (k := 602) (n := nfO s) (a := f) (k2 := 610 + f) C ⟨by decide, by decide⟩ (Or.inr (Or.inl hR.2.1.2.1.1.1)) hR.2.1.2.1.1.2 ⟨hf, by omega⟩ (hR.2.1.2.1.2 _ hf) ⟨by omega, by omega⟩ dL_act_185 ?_
  refine v_iload (C.wl _ _) dL_act_186 rfl ?_
  refine l_aald (k := 610 + f) (n := 10) (a := k) (k2 := 620 + (10 * f + k)) C ⟨by omega, by omega⟩ (Or.inl (hR.2.1.2.2 _ hf).1.1) (hR.2.1.2.2 _ hf).1.2 ⟨hk, by decide⟩ (((hR.2.1.2.2 _ hf).2 _ hk).trans (congrArg nI (Nat.add_assoc _ _ _))) ⟨by omega, by omega⟩ dL_act_188 ?_
  refine v_iconst (v := 0) (C.wl _ _) dL_act_189 (by decide) ?_
  refine l_iald (k := 620 + (10 * f + k)) (n := 3) (a := 0) C ⟨by omega, by omega⟩ ((Nat.add_assoc 620 (10 * f) k) ▸ hR.2.2.1 _ _ hf hk).1.1 ((Nat.add_assoc 620 (10 * f) k) ▸ hR.2.2.1 _ _ hf hk).1.2 (by decide) dL_act_190 ?_
  refine v_topi (y := nI b) hb0 ?_
  refine v_iload (C.wl _ _) dL_act_191 rfl ?_
  refine v_iadd (C.wl _ _) dL_act_193 ?_
  refine v_topi (y := nI (b + (1 + v))) (by rw [nI_add]) ?_
  refine v_bipush (v := 9) (C.wl _ _) dL_act_194 (by decide) ?_
  refine v_icmp_le (tgt := 203) (C.wl _ _) dL_act_196 (by decide) (fun h196 => ?_) (fun h196 => ?_)
  · have h9 : b + (1 + v) ≤ 9 := (nI_leI (b := 9) (by omega) (by decide)).mp h196
    have hcd : cdBuy s (nI f) (nI k) (nI (1 + v)) = 0 := hcv.trans (if_pos h9)
    refine v_aload_n (C.wl _ _) dL_act_203 rfl rfl ?_
    refine l_get (k := 600) C inG5 (ci := 6) rfl 3 (by decide) (tg5 8 rfl rfl) rfl ⟨by decide, by decide⟩ (cW_6 hR.1.1) (sm_r (by decide) hR.1.2.2.2.2.1 ⟨by decide, by decide⟩) dL_act_204 ?_
    refine v_iload_n (C.wl _ _) dL_act_207 rfl rfl ?_
    refine l_aald (k := 602) (n := nfO s) (a := f) (k2 := 610 + f) C ⟨by decide, by decide⟩ (Or.inr (Or.inl hR.2.1.2.1.1.1)) hR.2.1.2.1.1.2 ⟨hf, by omega⟩ (hR.2.1.2.1.2 _ hf) ⟨by omega, by omega⟩ dL_act_208 ?_
    refine v_iload (C.wl _ _) dL_act_209 rfl ?_
    refine l_aald (k := 610 + f) (n := 10) (a := k) (k2 := 620 + (10 * f + k)) C ⟨by omega, by omega⟩ (Or.inl (hR.2.1.2.2 _ hf).1.1) (hR.2.1.2.2 _ hf).1.2 ⟨hk, by decide⟩ (((hR.2.1.2.2 _ hf).2 _ hk).trans (congrArg nI (Nat.add_assoc _ _ _))) ⟨by omega, by omega⟩ dL_act_211 ?_
    refine v_iconst (v := 0) (C.wl _ _) dL_act_212 (by decide) ?_
    refine l_iald (k := 620 + (10 * f + k)) (n := 3) (a := 0) C ⟨by omega, by omega⟩ ((Nat.add_assoc 620 (10 * f) k) ▸ hR.2.2.1 _ _ hf hk).1.1 ((Nat.add_assoc 620 (10 * f) k) ▸ hR.2.2.1 _ _ hf hk).1.2 (by decide) dL_act_213 ?_
    refine v_topi (y := nI b) hb0 ?_
    refine v_iload (C.wl _ _) dL_act_214 rfl ?_
    refine v_iadd (C.wl _ _) dL_act_216 ?_
    refine v_topi (y := nI (b + (1 + v))) (by rw [nI_add]) ?_
    refine v_istore (lo' := [some (.ref (ad 30)), some (.ref (ad 600)), some (.int x), some (.int (nI f)), some (.int (nI k)), some (.int (nI p)), some (.ref (ad (700 + 20 * p))), none, some (.int (nI (b + (1 + v)))), some (.int (nI (1 + v))), none, none, none, none, none]) (C.wl _ _) dL_act_217 (Nat.le_of_ble_eq_true rfl) rfl rfl ?_
    refine v_iload (C.wl _ _) dL_act_219 rfl ?_
    refine v_if_le (tgt := 237) (C.wl _ _) dL_act_221 (by decide) (fun h221 => ?_) (fun h221 => ?_)
    · exact absurd ((nI_leI (b := 0) (by omega) (by decide)).mp h221) (by omega)
    · refine v_aload_n (C.wl _ _) dL_act_224 rfl rfl ?_
      refine l_get (k := 600) C inG5 (ci := 6) rfl 3 (by decide) (tg5 8 rfl rfl) rfl ⟨by decide, by decide⟩ (cW_6 hR.1.1) (sm_r (by decide) hR.1.2.2.2.2.1 ⟨by decide, by decide⟩) dL_act_225 ?_
      refine v_iload_n (C.wl _ _) dL_act_228 rfl rfl ?_
      refine l_aald (k := 602) (n := nfO s) (a := f) (k2 := 610 + f) C ⟨by decide, by decide⟩ (Or.inr (Or.inl hR.2.1.2.1.1.1)) hR.2.1.2.1.1.2 ⟨hf, by omega⟩ (hR.2.1.2.1.2 _ hf) ⟨by omega, by omega⟩ dL_act_229 ?_
      refine v_iload (C.wl _ _) dL_act_230 rfl ?_
      refine l_aald (k := 610 + f) (n := 10) (a := k) (k2 := 620 + (10 * f + k)) C ⟨by omega, by omega⟩ (Or.inl (hR.2.1.2.2 _ hf).1.1) (hR.2.1.2.2 _ hf).1.2 ⟨hk, by decide⟩ (((hR.2.1.2.2 _ hf).2 _ hk).trans (congrArg nI (Nat.add_assoc _ _ _))) ⟨by omega, by omega⟩ dL_act_232 ?_
      refine v_iconst (v := 0) (C.wl _ _) dL_act_233 (by decide) ?_
      refine v_iload (C.wl _ _) dL_act_234 rfl ?_
      refine l_iast (k := 620 + (10 * f + k)) (n := 3) (a := 0) C ⟨by omega, by omega⟩ ((Nat.add_assoc 620 (10 * f) k) ▸ hR.2.2.1 _ _ hf hk).1.1 ((Nat.add_assoc 620 (10 * f) k) ▸ hR.2.2.1 _ _ hf hk).1.2 (by decide) dL_act_236 ?_
      have hBk : Bk (10 * nfO s) m (wr m (620 + (10 * f + k)) 0 (nI (b + (1 + v)))) 0 (upd (s 6) (10 * f + k) (nI (b + (1 + v)))) := (Bk.rf (fun x hx => by have := (hR.2.2.1 (x / 10) (x % 10) (by omega) (by omega)).2.1; rw [show 620 + 10 * (x / 10) + x % 10 = 620 + x by omega, show 10 * (x / 10) + x % 10 = x by omega] at this; exact this)).w (10 * f + k) (by omega) _
      have hst : stBuy s (nI f) (nI k) (nI (1 + v)) = wr s 6 (10 * f + k) (nI (b + (1 + v))) := by unfold stBuy; rw [if_pos hcd, at_n (by omega) hk, hbe, nI_add]
      have hSim : SimR (stBuy s (nI f) (nI k) (nI (1 + v))) (wr m (620 + (10 * f + k)) 0 (nI (b + (1 + v)))) := Sim_bl hI hR (fun q hq => by rw [hst]; exact wr_row _ _ _ _ hq) (by rw [hst, wr_own]; exact hBk)
      have hF2 : Fr (wr m (620 + (10 * f + k)) 0 (nI (b + (1 + v)))) 900 := hF.wi (by omega) (by omega) ((Nat.add_assoc 620 (10 * f) k) ▸ hR.2.2.1 _ _ hf hk).1.1
      refine v_aload_n (C.wl _ _) dL_act_237 rfl rfl ?_
      refine v_iload_n (C.wl _ _) dL_act_238 rfl rfl ?_
      refine v_iload (C.wl _ _) dL_act_239 rfl ?_
      refine v_iload (C.wl _ _) dL_act_241 rfl ?_
      refine v_callX (n := 3) (k := 30) (as := [.int (nI f), .int (nI k), .int (nI (1 + v))]) (C.wl _ _) hW9.S (x_buy _ hP9 (Z.wl ad (wr m (620 + (10 * f + k)) 0 (nI (b + (1 + v))))) (nI f) (nI k) (nI (1 + v)) s g hE.1.1 hE.1.2.1 hRl) (gv (tg3 31 rfl rfl) (tg3 32 rfl rfl) (tg3 33 rfl rfl) (tg1 1 rfl rfl) (tg3 34 rfl rfl)) (by decide +kernel) ⟨Nat.le_of_ble_eq_true rfl, Nat.le_of_ble_eq_true rfl⟩ rfl cx_T rfl rfl (Nat.le_of_ble_eq_true rfl) dL_act_243 ⟨(by show 0 + 1 ≤ 70; omega), (by show 0 + 6 ≤ 700; omega)⟩ (fun E q g243 hp243 => absurd hcd hp243.1) (fun r243 g243 hp243 => ?_)
      obtain ⟨-, hr243, hRl243, hK243⟩ := hp243
      refine v_topi (y := nI (b + (1 + v))) (hr243.trans (by rw [at_n (by omega) hk, hbe, nI_add])) ?_
      refine v_istore (lo' := [some (.ref (ad 30)), some (.ref (ad 600)), some (.int x), some (.int (nI f)), some (.int (nI k)), some (.int (nI p)), some (.ref (ad (700 + 20 * p))), some (.int (nI (b + (1 + v)))), some (.int (nI (b + (1 + v)))), some (.int (nI (1 + v))), none, none, none, none, none]) (C.wl _ _) dL_act_246 (Nat.le_of_ble_eq_true rfl) rfl rfl ?_
      refine v_goto (tgt := 256) (C.wl _ _) dL_act_248 (by decide) ?_
      refine v_iload (C.wl _ _) dL_act_256 rfl ?_
      refine v_iload (C.wl _ _) dL_act_258 rfl ?_
      refine v_icmp_ne (tgt := 267) (C.wl _ _) dL_act_260 (by decide) (fun h => absurd rfl h) (fun _ => ?_)
      refine v_iconst (v := 1) (C.wl _ _) dL_act_263 (by decide) ?_
      refine v_goto (tgt := 268) (C.wl _ _) dL_act_264 (by decide) ?_
      refine v_wide (k := 70) (n := 700) (by show 0 + 1 ≤ 70; omega) (by show 0 + 6 ≤ 700; omega) ?_
      exact ret _ _ _ _ _ dL_act_268 ⟨⟨rfl, rfl⟩, _, (LE_buy hE hN (nI f) (nI k) (nI (1 + v))).1, (LE_buy hE hN (nI f) (nI k) (nI (1 + v))).2, hSim, hF2, hRl243, (by rw [hst]; exact Nat.le_of_eq (by unfold nfO; rw [wr_row _ _ _ _ (by decide)])), (by rw [hst]; exact Nat.le_of_eq (by unfold npO; rw [wr_row _ _ _ _ (by decide)]))⟩
  · have h9 : ¬ b + (1 + v) ≤ 9 := fun q => h196 ((nI_leI (b := 9) (by omega) (by decide)).mpr q)
    have hcd : cdBuy s (nI f) (nI k) (nI (1 + v)) = 3 := hcv.trans (if_neg h9)
    refine v_iconst (v := (-1)) (C.wl _ _) dL_act_199 (by decide) ?_
    refine v_goto (tgt := 217) (C.wl _ _) dL_act_200 (by decide) ?_
    refine v_istore (lo' := [some (.ref (ad 30)), some (.ref (ad 600)), some (.int x), some (.int (nI f)), some (.int (nI k)), some (.int (nI p)), some (.ref (ad (700 + 20 * p))), none, some (.int (-1)), some (.int (nI (1 + v))), none, none, none, none, none]) (C.wl _ _) dL_act_217 (Nat.le_of_ble_eq_true rfl) rfl rfl ?_
    refine v_iload (C.wl _ _) dL_act_219 rfl ?_
    refine v_if_le (tgt := 237) (C.wl _ _) dL_act_221 (by decide) (fun h221 => ?_) (fun h221 => ?_)
    · refine v_aload_n (C.wl _ _) dL_act_237 rfl rfl ?_
      refine v_iload_n (C.wl _ _) dL_act_238 rfl rfl ?_
      refine v_iload (C.wl _ _) dL_act_239 rfl ?_
      refine v_iload (C.wl _ _) dL_act_241 rfl ?_
      refine v_callX (n := 3) (k := 30) (as := [.int (nI f), .int (nI k), .int (nI (1 + v))]) (C.wl _ _) hW9.S (x_buy _ hP9 (Z.wl ad m) (nI f) (nI k) (nI (1 + v)) s g hE.1.1 hE.1.2.1 hRl) (gv (tg3 31 rfl rfl) (tg3 32 rfl rfl) (tg3 33 rfl rfl) (tg1 1 rfl rfl) (tg3 34 rfl rfl)) (by decide +kernel) ⟨Nat.le_of_ble_eq_true rfl, Nat.le_of_ble_eq_true rfl⟩ rfl cx_T rfl rfl (Nat.le_of_ble_eq_true rfl) dL_act_243 ⟨(by show 0 + 1 ≤ 70; omega), (by show 0 + 6 ≤ 700; omega)⟩ (fun E q243 g243 hp243 => ?_) (fun r243 g243 hp243 => absurd (hcd.symm.trans hp243.1) (by decide))
      obtain ⟨-, hX243, hRl243, -⟩ := hp243
      rw [hcd] at hX243
      have hX243 : E = exC 2 := hX243
      subst hX243
      refine v_catchU (k := 2) (C.wl _ _) hW9.S hT 0 rfl (by decide) (by decide) (tg3 28 rfl rfl) (List.mem_of_getElem? (i := 5) rfl) (fun j hj => absurd hj (Nat.not_lt_zero _)) ?_
      refine v_astore (lo' := [some (.ref (ad 30)), some (.ref (ad 600)), some (.int x), some (.int (nI f)), some (.int (nI k)), some (.int (nI p)), some (.ref (ad (700 + 20 * p))), none, some (.int (-1)), some (.int (nI (1 + v))), some (.ref q243), none, none, none, none]) (C.wl _ _) dL_act_251 (Nat.le_of_ble_eq_true rfl) rfl rfl ?_
      refine v_iconst (v := (-1)) (C.wl _ _) dL_act_253 (by decide) ?_
      refine v_istore (lo' := [some (.ref (ad 30)), some (.ref (ad 600)), some (.int x), some (.int (nI f)), some (.int (nI k)), some (.int (nI p)), some (.ref (ad (700 + 20 * p))), some (.int (-1)), some (.int (-1)), some (.int (nI (1 + v))), some (.ref q243), none, none, none, none]) (C.wl _ _) dL_act_254 (Nat.le_of_ble_eq_true rfl) rfl rfl ?_
      refine v_iload (C.wl _ _) dL_act_256 rfl ?_
      refine v_iload (C.wl _ _) dL_act_258 rfl ?_
      have hst : stBuy s (nI f) (nI k) (nI (1 + v)) = s := by unfold stBuy; rw [if_neg (by rw [hcd]; decide)]
      refine v_icmp_ne (tgt := 267) (C.wl _ _) dL_act_260 (by decide) (fun h => absurd rfl h) (fun _ => ?_)
      refine v_iconst (v := 1) (C.wl _ _) dL_act_263 (by decide) ?_
      refine v_goto (tgt := 268) (C.wl _ _) dL_act_264 (by decide) ?_
      refine v_wide (k := 70) (n := 700) (by show 0 + 1 ≤ 70; omega) (by show 0 + 6 ≤ 700; omega) ?_
      exact ret _ _ _ _ _ dL_act_268 ⟨⟨rfl, rfl⟩, s, (LE.rf hE hN).1, (LE.rf hE hN).2, hR, hF, (by rw [← hst]; exact hRl243), (Nat.le_refl _), (Nat.le_refl _)⟩
    · exact absurd (by decide) h221
