/-! THE LAW'S SHOP against the class: its posters -/
set_option maxRecDepth 100000 in
theorem same_P {P : Pm} {Z : Zc} {ad : Nat → Nat} {s m : MG} (hP9 : P.2.1.stackTraces = false) (C : Cx P Z cX5_isSame RX5) (hW9 : CxW P Z) (hI : IvM s) (hF9 : IvF s) (hE9 : IvE s) (hR0 : SimR s m) (hF0 : Fr m 900) (X : Nat)
    (K : ∀ (m1 g1 : MG) (v6 v7 v8 v9 v10 : Option Value), CtI m m1 7 (cT s X (npO s)) → Rl s g1 → V P (rmz 10 330 400 2400) (Z.wl ad m1) [some (.ref (ad 600)), some (.ref (ad 30)), some (.ref (ad 900)), some (.int (sumI (alO s) (npO s))), some (.int (sumI (fun q => flO s q (nlO s q)) (npO s))), some (.int (nI (npO s))), v6, v7, v8, v9, v10] 502 [] g1 (151 + 29 * npO s) (907 + 168 * npO s))
    : ∀ (n p : Nat) (m1 g1 : MG) (v6 v7 v8 v9 v10 : Option Value), npO s - p < n → p ≤ npO s → CtI m m1 7 (cT s X p) → Rl s g1 → V P (rmz 10 330 400 2400) (Z.wl ad m1) [some (.ref (ad 600)), some (.ref (ad 30)), some (.ref (ad 900)), some (.int (sumI (alO s) p)), some (.int (sumI (fun q => flO s q (nlO s q)) p)), some (.int (nI p)), v6, v7, v8, v9, v10] 179 [] g1 (151 + 29 * p) (907 + 168 * p) := by
  have hf5 := (IvM_nf hI).1
  have hp6 := (IvM_np hI).1
  intro n
  induction n with
  | zero => intro p m1 g1 v6 v7 v8 v9 v10 hn; exact absurd hn (Nat.not_lt_zero _)
  | succ n ih =>
    intro p m1 g1 v6 v7 v8 v9 v10 hn hi hC hRl
    have hR2 := hR0.low hI (fun k k1 k2 => hC.1 k (by omega))
    have hF1 : Fr m1 901 := hC.Fr hF0
    have hR := hR2
    refine v_iload (C.wl _ _) dX5_isSame_179 rfl ?_
    refine v_aload_n (C.wl _ _) dX5_isSame_181 rfl rfl ?_
    refine l_get (k := 600) C inG5 (ci := 6) rfl 6 (by decide) (tg5 13 rfl rfl) rfl ⟨by decide, by decide⟩ (cW_6 hR.1.1) (sm_r (by decide) hR.1.2.2.2.2.2.2.2 ⟨by decide, by decide⟩) dX5_isSame_182 ?_
    refine l_len (k := 605) (n := npO s) C ⟨by decide, by decide⟩ (Or.inr (Or.inr (Or.inr hR.2.2.2.2.2.1.1.1))) hR.2.2.2.2.2.1.1.2 (by omega) dX5_isSame_185 ?_
    refine v_icmp_ge (tgt := 502) (C.wl _ _) dX5_isSame_186 (by decide) (fun h186 => ?_) (fun h186 => ?_)
    · have hie : p = npO s := Nat.le_antisymm hi ((nI_leI (by omega) (by omega)).mp h186)
      subst hie
      exact K m1 g1 v6 v7 v8 v9 v10 hC hRl
    · have hp : p < npO s := Nat.lt_of_not_le fun q => h186 ((nI_leI (by omega) (by omega)).mpr q)
      have h4 := (IvM_nl hI (show p < 6 by omega)).2
      obtain ⟨t, ht4, hte⟩ := hI.2.2.2.2.1 p (show p < 6 by omega)
      refine v_aload_n (C.wl _ _) dX5_isSame_189 rfl rfl ?_
      refine l_get (k := 600) C inG5 (ci := 6) rfl 6 (by decide) (tg5 13 rfl rfl) rfl ⟨by decide, by decide⟩ (cW_6 hR.1.1) (sm_r (by decide) hR.1.2.2.2.2.2.2.2 ⟨by decide, by decide⟩) dX5_isSame_190 ?_
      refine v_iload (C.wl _ _) dX5_isSame_193 rfl ?_
      refine l_aald (k := 605) (n := npO s) (a := p) (k2 := 700 + 20 * p) C ⟨by decide, by decide⟩ (Or.inr (Or.inr hR.2.2.2.2.2.1.1.1)) hR.2.2.2.2.2.1.1.2 ⟨hp, by omega⟩ (hR.2.2.2.2.2.1.2 _ hp) ⟨by omega, by omega⟩ dX5_isSame_195 ?_
      refine v_astore (lo' := [some (.ref (ad 600)), some (.ref (ad 30)), some (.ref (ad 900)), some (.int (sumI (alO s) p)), some (.int (sumI (fun q => flO s q (nlO s q)) p)), some (.int (nI p)), some (.ref (ad (700 + 20 * p))), v7, v8, v9, v10]) (C.wl _ _) dX5_isSame_196 (Nat.le_of_ble_eq_true rfl) rfl rfl ?_
      obtain ⟨hPF, hPL, hPX⟩ := hR.L hp
      refine v_bipush (v := 8) (C.wl _ _) dX5_isSame_198 (by decide) ?_
      refine l_newi (T := 901) (N := 8) C hF1 (by omega) (by decide) dX5_isSame_200 (by show 151 + 29 * p + 1 ≤ 400; omega) (by show 907 + 168 * p + 8 ≤ 2400; omega) (fun ad200 hA200 => ?_)
      have hF200 := hF1.new (by omega) (rN_R (kd := 1) (n := 8) (by omega) (by decide) (by omega))
      refine v_lo (lo' := [some (.ref (ad200 600)), some (.ref (ad200 30)), some (.ref (ad200 900)), some (.int (sumI (alO s) p)), some (.int (sumI (fun q => flO s q (nlO s q)) p)), some (.int (nI p)), some (.ref (ad200 (700 + 20 * p))), v7, v8, v9, v10]) (by rw [hA200 600 (by omega), hA200 30 (by omega), hA200 900 (by omega), hA200 (700 + 20 * p) (by omega)]) ?_
      have hD0 : RwI 901 m1 (rwr m1 901 (rN 1 8)) 8 (fun _ => 0) := RwI.new (by decide)
      generalize rwr m1 901 (rN 1 8) = w202 at hD0 ⊢
      have hR := hR2.low hI (fun k k1 k2 => hD0.1 k (by omega))
      obtain ⟨hPF, hPL, hPX⟩ := hR.L hp
      refine v_dup (C.wl _ _) dX5_isSame_202 rfl ?_
      refine v_iconst (v := 0) (C.wl _ _) dX5_isSame_203 (by decide) ?_
      refine v_aload (C.wl _ _) dX5_isSame_204 rfl ?_
      refine l_get (k := 700 + 20 * p) C inG4 (ci := 5) rfl 0 (by decide) (tg2 177 rfl rfl) rfl ⟨by omega, by omega⟩ (cW_5 hPF.1) rfl dX5_isSame_206 ?_
      refine v_topi (y := toldO s p 0) hPF.2.1 ?_
      refine l_iast (k := 901) (n := 8) (a := 0) C ⟨by omega, by omega⟩ hD0.2.1.1 hD0.2.1.2 (by decide) dX5_isSame_209 ?_
      have hDw210 := hD0.w (by decide) (a := 0) (x := toldO s p 0) (by decide)
      generalize wr w202 901 0 (toldO s p 0) = w210 at hDw210 ⊢
      have hR := hR2.low hI (fun k k1 k2 => hDw210.1 k (by omega))
      obtain ⟨hPF, hPL, hPX⟩ := hR.L hp
      refine v_dup (C.wl _ _) dX5_isSame_210 rfl ?_
      refine v_iconst (v := 1) (C.wl _ _) dX5_isSame_211 (by decide) ?_
      refine v_aload (C.wl _ _) dX5_isSame_212 rfl ?_
      refine l_get (k := 700 + 20 * p) C inG4 (ci := 5) rfl 1 (by decide) (tg2 180 rfl rfl) rfl ⟨by omega, by omega⟩ (cW_5 hPF.1) rfl dX5_isSame_214 ?_
      refine v_topi (y := toldO s p 1) hPF.2.2.1 ?_
      refine l_iast (k := 901) (n := 8) (a := 1) C ⟨by omega, by omega⟩ hDw210.2.1.1 hDw210.2.1.2 (by decide) dX5_isSame_217 ?_
      have hDw218 := hDw210.w (by decide) (a := 1) (x := toldO s p 1) (by decide)
      generalize wr w210 901 1 (toldO s p 1) = w218 at hDw218 ⊢
      have hR := hR2.low hI (fun k k1 k2 => hDw218.1 k (by omega))
      obtain ⟨hPF, hPL, hPX⟩ := hR.L hp
      refine v_dup (C.wl _ _) dX5_isSame_218 rfl ?_
      refine v_iconst (v := 2) (C.wl _ _) dX5_isSame_219 (by decide) ?_
      refine v_aload (C.wl _ _) dX5_isSame_220 rfl ?_
      refine l_get (k := 700 + 20 * p) C inG4 (ci := 5) rfl 2 (by decide) (tg2 183 rfl rfl) rfl ⟨by omega, by omega⟩ (cW_5 hPF.1) (ps_r (by decide) hPF.2.2.2.1 ⟨by omega, by omega⟩) dX5_isSame_222 ?_
      refine l_len (k := 701 + 20 * p) (n := nlO s p) C ⟨by omega, by omega⟩ (Or.inr (Or.inl hPL.1.1)) hPL.1.2 (by omega) dX5_isSame_225 ?_
      refine v_topi (y := toldO s p 2) (told_n hI (show p < 6 by omega)) ?_
      refine l_iast (k := 901) (n := 8) (a := 2) C ⟨by omega, by omega⟩ hDw218.2.1.1 hDw218.2.1.2 (by decide) dX5_isSame_226 ?_
      have hDw227 := hDw218.w (by decide) (a := 2) (x := toldO s p 2) (by decide)
      generalize wr w218 901 2 (toldO s p 2) = w227 at hDw227 ⊢
      have hR := hR2.low hI (fun k k1 k2 => hDw227.1 k (by omega))
      obtain ⟨hPF, hPL, hPX⟩ := hR.L hp
      refine v_dup (C.wl _ _) dX5_isSame_227 rfl ?_
      refine v_iconst (v := 3) (C.wl _ _) dX5_isSame_228 (by decide) ?_
      refine v_aload (C.wl _ _) dX5_isSame_229 rfl ?_
      refine v_callVi (n := 0) (k := 700 + 20 * p) (as := []) (C.wl _ _) (l_pletters _ Z ad200 w227 (700 + 20 * p) (701 + 20 * p) (nlO s p) (fun q => 705 + 20 * p + q) (fun q => szw (wdO s (4 * p + q))) ⟨by omega, by omega⟩ hPF.1 (hPL.K hPF (by omega) h4) g1) (gv (tg3 1 rfl rfl) (tg3 2 rfl rfl) (tg3 3 rfl rfl) (tg1 19 rfl rfl) (tg3 4 rfl rfl)) (by decide +kernel) ⟨Nat.le_of_ble_eq_true rfl, Nat.le_of_ble_eq_true rfl⟩ rfl (l_cx ⟨by omega, by omega⟩ (cW_5 hPF.1)) rfl rfl (Nat.le_of_ble_eq_true rfl) dX5_isSame_231 ⟨(by show 151 + 29 * p + 1 + 0 ≤ 400; omega), (by show 907 + 168 * p + 8 + 0 ≤ 2400; omega)⟩ (fun r231 gg231 hp231 => ?_)
      obtain ⟨hr231, hgg231⟩ := hp231
      rw [hgg231]
      refine v_topi (y := toldO s p 3) (hr231.trans rfl) ?_
      refine l_iast (k := 901) (n := 8) (a := 3) C ⟨by omega, by omega⟩ hDw227.2.1.1 hDw227.2.1.2 (by decide) dX5_isSame_234 ?_
      have hDw235 := hDw227.w (by decide) (a := 3) (x := toldO s p 3) (by decide)
      generalize wr w227 901 3 (toldO s p 3) = w235 at hDw235 ⊢
      have hR := hR2.low hI (fun k k1 k2 => hDw235.1 k (by omega))
      obtain ⟨hPF, hPL, hPX⟩ := hR.L hp
      refine v_dup (C.wl _ _) dX5_isSame_235 rfl ?_
      refine v_iconst (v := 4) (C.wl _ _) dX5_isSame_236 (by decide) ?_
      refine v_aload (C.wl _ _) dX5_isSame_237 rfl ?_
      refine l_get (k := 700 + 20 * p) C inG4 (ci := 5) rfl 3 (by decide) (tg2 186 rfl rfl) rfl ⟨by omega, by omega⟩ (cW_5 hPF.1) rfl dX5_isSame_239 ?_
      refine v_topi (y := s 15 p) hPF.2.2.2.2.1 ?_
      have J242 : V P (rmz 10 330 400 2400) (Z.wl ad200 w235) [some (.ref (ad200 600)), some (.ref (ad200 30)), some (.ref (ad200 900)), some (.int (sumI (alO s) p)), some (.int (sumI (fun q => flO s q (nlO s q)) p)), some (.int (nI p)), some (.ref (ad200 (700 + 20 * p))), v7, v8, v9, v10] 250 [.int (toldO s p 4), .int 4, .ref (ad200 901), .ref (ad200 901)] g1 (151 + 29 * p + 1) (907 + 168 * p + 8) := by
        refine l_iast (k := 901) (n := 8) (a := 4) C ⟨by omega, by omega⟩ hDw235.2.1.1 hDw235.2.1.2 (by decide) dX5_isSame_250 ?_
        have hDw251 := hDw235.w (by decide) (a := 4) (x := toldO s p 4) (by decide)
        generalize wr w235 901 4 (toldO s p 4) = w251 at hDw251 ⊢
        have hR := hR2.low hI (fun k k1 k2 => hDw251.1 k (by omega))
        obtain ⟨hPF, hPL, hPX⟩ := hR.L hp
        refine v_dup (C.wl _ _) dX5_isSame_251 rfl ?_
        refine v_iconst (v := 5) (C.wl _ _) dX5_isSame_252 (by decide) ?_
        refine v_aload (C.wl _ _) dX5_isSame_253 rfl ?_
        obtain ⟨n9, hn9, h7a, h7b⟩ := hPX.2.1
        refine v_callVi (n := 0) (k := 700 + 20 * p) (as := []) (C.wl _ _) (l_pwrong _ Z ad200 w251 (700 + 20 * p) (703 + 20 * p) n9 ⟨by omega, by omega⟩ hPF.1 hPF.2.2.2.2.2.2.2.1 ⟨by omega, by omega⟩ h7a hn9 g1) (gv (tg2 228 rfl rfl) (tg2 229 rfl rfl) (tg2 230 rfl rfl) (tg1 19 rfl rfl) (tg2 231 rfl rfl)) (by decide +kernel) ⟨Nat.le_of_ble_eq_true rfl, Nat.le_of_ble_eq_true rfl⟩ rfl (l_cx ⟨by omega, by omega⟩ (cW_5 hPF.1)) rfl rfl (Nat.le_of_ble_eq_true rfl) dX5_isSame_255 ⟨(by show 151 + 29 * p + 1 + 0 ≤ 400; omega), (by show 907 + 168 * p + 8 + 0 ≤ 2400; omega)⟩ (fun r255 gg255 hp255 => ?_)
        obtain ⟨hr255, hgg255⟩ := hp255
        rw [hgg255]
        refine v_topi (y := toldO s p 5) (hr255.trans (v_wrg hI hR hp h7b)) ?_
        refine l_iast (k := 901) (n := 8) (a := 5) C ⟨by omega, by omega⟩ hDw251.2.1.1 hDw251.2.1.2 (by decide) dX5_isSame_258 ?_
        have hDw259 := hDw251.w (by decide) (a := 5) (x := toldO s p 5) (by decide)
        generalize wr w251 901 5 (toldO s p 5) = w259 at hDw259 ⊢
        have hR := hR2.low hI (fun k k1 k2 => hDw259.1 k (by omega))
        obtain ⟨hPF, hPL, hPX⟩ := hR.L hp
        refine v_dup (C.wl _ _) dX5_isSame_259 rfl ?_
        refine v_bipush (v := 6) (C.wl _ _) dX5_isSame_260 (by decide) ?_
        refine v_aload (C.wl _ _) dX5_isSame_262 rfl ?_
        refine l_get (k := 700 + 20 * p) C inG4 (ci := 5) rfl 4 (by decide) (tg2 188 rfl rfl) rfl ⟨by omega, by omega⟩ (cW_5 hPF.1) rfl dX5_isSame_264 ?_
        refine v_topi (y := toldO s p 6) hPF.2.2.2.2.2.1 ?_
        refine l_iast (k := 901) (n := 8) (a := 6) C ⟨by omega, by omega⟩ hDw259.2.1.1 hDw259.2.1.2 (by decide) dX5_isSame_267 ?_
        have hDw268 := hDw259.w (by decide) (a := 6) (x := toldO s p 6) (by decide)
        generalize wr w259 901 6 (toldO s p 6) = w268 at hDw268 ⊢
        have hR := hR2.low hI (fun k k1 k2 => hDw268.1 k (by omega))
        obtain ⟨hPF, hPL, hPX⟩ := hR.L hp
        refine v_dup (C.wl _ _) dX5_isSame_268 rfl ?_
        refine v_bipush (v := 7) (C.wl _ _) dX5_isSame_269 (by decide) ?_
        refine v_aload_n (C.wl _ _) dX5_isSame_271 rfl rfl ?_
        refine v_aload (C.wl _ _) dX5_isSame_272 rfl ?_
        obtain ⟨n8, hn8, h8a, h8b⟩ := hPX.2.1
        have h01 : w268 (700 + 20 * p) 3 = 0 ∨ w268 (700 + 20 * p) 3 = 1 := by rw [hPF.2.2.2.2.1]; exact IvM_01 hI (by omega)
        refine v_callVi (n := 1) (k := 600) (as := [.ref (ad200 (700 + 20 * p))]) (C.wl _ _) (l_proof _ Z ad200 w268 (700 + 20 * p) (701 + 20 * p) (702 + 20 * p) (703 + 20 * p) (nlO s p) (nfO s) t (fun q => 705 + 20 * p + q) (fun q => szw (wdO s (4 * p + q))) (fun q => iz (s 18 (4 * p + q))) ⟨by omega, by omega⟩ hPF.1 h01 ⟨hR.1.1, hR.1.2.2.2.1, hR.1.2.2.2.2.2.2.1⟩ hR.2.1.1.1 hf5 ⟨hR.2.2.2.2.1.1, fun t ht => ⟨(hR.2.2.2.2.1.2 t ht).1, (hR.2.2.2.2.1.2 t ht).2.1⟩⟩ ht4 (hPF.2.1.trans hte) hPF.2.2.2.2.2.2.2.1 ⟨by omega, by omega⟩ n8 h8a hn8 hPF.2.2.2.2.2.2.1 ⟨by omega, by omega⟩ (hPL.K hPF (by omega) h4) (v_prX hI hF9 hR hp) g1) (gv (tg3 5 rfl rfl) (tg3 6 rfl rfl) (tg3 7 rfl rfl) (tg1 6 rfl rfl) (tg3 8 rfl rfl)) (by decide +kernel) ⟨Nat.le_of_ble_eq_true rfl, Nat.le_of_ble_eq_true rfl⟩ rfl (l_cx ⟨by decide, by decide⟩ (cW_6 hR.1.1)) rfl rfl (Nat.le_of_ble_eq_true rfl) dX5_isSame_274 ⟨(by show 151 + 29 * p + 1 + 0 ≤ 400; omega), (by show 907 + 168 * p + 8 + 0 ≤ 2400; omega)⟩ (fun r274 gg274 hp274 => ?_)
        obtain ⟨hr274, hgg274⟩ := hp274
        rw [hgg274]
        refine v_topi (y := toldO s p 7) (hr274.trans (v_prf hI hF9 hR hp h8b ht4 hte)) ?_
        refine l_iast (k := 901) (n := 8) (a := 7) C ⟨by omega, by omega⟩ hDw268.2.1.1 hDw268.2.1.2 (by decide) dX5_isSame_277 ?_
        have hDw278 := hDw268.w (by decide) (a := 7) (x := toldO s p 7) (by decide)
        generalize wr w268 901 7 (toldO s p 7) = w278 at hDw278 ⊢
        have hR := hR2.low hI (fun k k1 k2 => hDw278.1 k (by omega))
        obtain ⟨hPF, hPL, hPX⟩ := hR.L hp
        refine v_astore (lo' := [some (.ref (ad200 600)), some (.ref (ad200 30)), some (.ref (ad200 900)), some (.int (sumI (alO s) p)), some (.int (sumI (fun q => flO s q (nlO s q)) p)), some (.int (nI p)), some (.ref (ad200 (700 + 20 * p))), some (.ref (ad200 901)), v8, v9, v10]) (C.wl _ _) dX5_isSame_278 (Nat.le_of_ble_eq_true rfl) rfl rfl ?_
        refine v_iconst (v := 0) (C.wl _ _) dX5_isSame_280 (by decide) ?_
        refine v_istore (lo' := [some (.ref (ad200 600)), some (.ref (ad200 30)), some (.ref (ad200 900)), some (.int (sumI (alO s) p)), some (.int (sumI (fun q => flO s q (nlO s q)) p)), some (.int (nI p)), some (.ref (ad200 (700 + 20 * p))), some (.ref (ad200 901)), some (.int 0), v9, v10]) (C.wl _ _) dX5_isSame_281 (Nat.le_of_ble_eq_true rfl) rfl rfl ?_
        refine v_lo (lo' := [some (.ref (ad200 600)), some (.ref (ad200 30)), some (.ref (ad200 900)), some (.int (sumI (alO s) p)), some (.int (sumI (fun q => flO s q (nlO s q)) p)), some (.int (nI p)), some (.ref (ad200 (700 + 20 * p))), some (.ref (ad200 901)), some (.int (nI 0)), v9, v10]) rfl ?_
        have hQ : RwI 901 m1 w278 8 (toldO s p) := hDw278.c (fun j hj => by rcases j with _ | _ | _ | _ | _ | _ | _ | _ | j <;> first | rfl | omega)
        have inn : ∀ (n2 k : Nat) (g1 : MG), 8 - k < n2 → k ≤ 8 → Rl s g1 → V P (rmz 10 330 400 2400) (Z.wl ad200 w278) [some (.ref (ad200 600)), some (.ref (ad200 30)), some (.ref (ad200 900)), some (.int (sumI (alO s) p)), some (.int (sumI (fun q => flO s q (nlO s q)) p)), some (.int (nI p)), some (.ref (ad200 (700 + 20 * p))), some (.ref (ad200 901)), some (.int (nI k)), v9, v10] 283 [] g1 (151 + 29 * p + 1 + k) (907 + 168 * p + 8 + 6 * k) := by
          intro n2
          induction n2 with
          | zero => intro k g1 hn; exact absurd hn (Nat.not_lt_zero _)
          | succ n2 ih2 =>
            intro k g1 hn2 hk hRl
            refine v_iload (C.wl _ _) dX5_isSame_283 rfl ?_
            refine v_bipush (v := 8) (C.wl _ _) dX5_isSame_285 (by decide) ?_
            refine v_icmp_ge (tgt := 314) (C.wl _ _) dX5_isSame_287 (by decide) (fun h287 => ?_) (fun h287 => ?_)
            · have hke : k = 8 := Nat.le_antisymm hk ((nI_leI (a := 8) (by decide) (by omega)).mp h287)
              subst hke
              refine v_iconst (v := 0) (C.wl _ _) dX5_isSame_314 (by decide) ?_
              refine v_istore (lo' := [some (.ref (ad200 600)), some (.ref (ad200 30)), some (.ref (ad200 900)), some (.int (sumI (alO s) p)), some (.int (sumI (fun q => flO s q (nlO s q)) p)), some (.int (nI p)), some (.ref (ad200 (700 + 20 * p))), some (.ref (ad200 901)), some (.int 0), v9, v10]) (C.wl _ _) dX5_isSame_315 (Nat.le_of_ble_eq_true rfl) rfl rfl ?_
              refine v_lo (lo' := [some (.ref (ad200 600)), some (.ref (ad200 30)), some (.ref (ad200 900)), some (.int (sumI (alO s) p)), some (.int (sumI (fun q => flO s q (nlO s q)) p)), some (.int (nI p)), some (.ref (ad200 (700 + 20 * p))), some (.ref (ad200 901)), some (.int (nI 0)), v9, v10]) rfl ?_
              refine v_wide (k := (151 + 29 * p + 9) + 5 * 0) (n := (907 + 168 * p + 56) + 28 * 0) (by show 151 + 29 * p + 1 + 8 ≤ (151 + 29 * p + 9) + 5 * 0; omega) (by show 907 + 168 * p + 8 + 6 * 8 ≤ (907 + 168 * p + 56) + 28 * 0; omega) ?_
              refine same_L (s := s) hP9 C hW9 hI hF9 hE9 hR (hQ.Fr hF1 (by decide)) p hp (151 + 29 * p + 9) (907 + 168 * p + 56) ⟨by omega, by omega⟩ _ _ (fun g1 v9 v10 hRl => ?_) _ 0 g1 _ _ (Nat.lt_succ_self _) (Nat.zero_le _) hRl
              refine v_aload_n (C.wl _ _) dX5_isSame_458 rfl rfl ?_
              refine v_iconst (v := 2) (C.wl _ _) dX5_isSame_459 (by decide) ?_
              refine v_dup2 (C.wl _ _) dX5_isSame_460 rfl rfl ?_
              refine l_iald (k := 900) (n := 7) (a := 2) C ⟨by omega, by omega⟩ ((congrFun (hQ.1 _ (by omega)) _).trans hC.2.1.1) ((congrFun (hQ.1 _ (by omega)) _).trans hC.2.1.2) (by decide) dX5_isSame_461 ?_
              refine v_topi (y := sumI (s 15) p) ((congrFun (hQ.1 _ (by omega)) _).trans (hC.2.2 2 (by decide))) ?_
              refine v_aload (C.wl _ _) dX5_isSame_462 rfl ?_
              refine v_iconst (v := 4) (C.wl _ _) dX5_isSame_464 (by decide) ?_
              refine l_iald (k := 901) (n := 8) (a := 4) C ⟨by omega, by omega⟩ hQ.2.1.1 hQ.2.1.2 (by decide) dX5_isSame_465 ?_
              refine v_topi (y := s 15 p) (hQ.2.2 4 (by decide)) ?_
              refine v_iadd (C.wl _ _) dX5_isSame_466 ?_
              refine v_topi (y := sumI (s 15) (p + 1)) rfl ?_
              refine l_iast (k := 900) (n := 7) (a := 2) C ⟨by omega, by omega⟩ ((congrFun (hQ.1 _ (by omega)) _).trans hC.2.1.1) ((congrFun (hQ.1 _ (by omega)) _).trans hC.2.1.2) (by decide) dX5_isSame_467 ?_
              refine v_iload (C.wl _ _) dX5_isSame_468 rfl ?_
              refine v_aload (C.wl _ _) dX5_isSame_470 rfl ?_
              refine v_iconst (v := 5) (C.wl _ _) dX5_isSame_472 (by decide) ?_
              refine l_iald (k := 901) (n := 8) (a := 5) C ⟨by omega, by omega⟩ hQ.2.1.1 hQ.2.1.2 (by decide) dX5_isSame_473 ?_
              refine v_topi (y := toldO s p 5) ((wr_ne _ _ _ _ (Or.inl (by decide))).trans (hQ.2.2 5 (by decide))) ?_
              refine v_iadd (C.wl _ _) dX5_isSame_474 ?_
              refine v_topi (y := sumI (fun q => flO s q (nlO s q)) (p + 1)) rfl ?_
              refine v_istore (lo' := [some (.ref (ad200 600)), some (.ref (ad200 30)), some (.ref (ad200 900)), some (.int (sumI (alO s) p)), some (.int (sumI (fun q => flO s q (nlO s q)) (p + 1))), some (.int (nI p)), some (.ref (ad200 (700 + 20 * p))), some (.ref (ad200 901)), some (.int (nI (nlO s p))), v9, v10]) (C.wl _ _) dX5_isSame_475 (Nat.le_of_ble_eq_true rfl) rfl rfl ?_
              refine v_iload_n (C.wl _ _) dX5_isSame_477 rfl rfl ?_
              refine v_aload (C.wl _ _) dX5_isSame_478 rfl ?_
              refine l_get (k := 700 + 20 * p) C inG4 (ci := 5) rfl 3 (by decide) (tg2 186 rfl rfl) rfl ⟨by omega, by omega⟩ (cW_5 ((wr_ne _ _ _ _ (by omega)).trans hPF.1)) rfl dX5_isSame_480 ?_
              refine v_topi (y := s 15 p) ((wr_ne _ _ _ _ (Or.inl (by omega))).trans hPF.2.2.2.2.1) ?_
              have J483 : V P (rmz 10 330 400 2400) (Z.wl ad200 (wr w278 900 2 (sumI (s 15) (p + 1)))) [some (.ref (ad200 600)), some (.ref (ad200 30)), some (.ref (ad200 900)), some (.int (sumI (alO s) p)), some (.int (sumI (fun q => flO s q (nlO s q)) (p + 1))), some (.int (nI p)), some (.ref (ad200 (700 + 20 * p))), some (.ref (ad200 901)), some (.int (nI (nlO s p))), v9, v10] 494 [.int (alO s p), .int (sumI (alO s) p)] g1 (151 + 29 * p + 9 + 5 * nlO s p) (907 + 168 * p + 56 + 28 * nlO s p) := by
                refine v_iadd (C.wl _ _) dX5_isSame_494 ?_
                refine v_topi (y := sumI (alO s) (p + 1)) rfl ?_
                refine v_istore_n (lo' := [some (.ref (ad200 600)), some (.ref (ad200 30)), some (.ref (ad200 900)), some (.int (sumI (alO s) (p + 1))), some (.int (sumI (fun q => flO s q (nlO s q)) (p + 1))), some (.int (nI p)), some (.ref (ad200 (700 + 20 * p))), some (.ref (ad200 901)), some (.int (nI (nlO s p))), v9, v10]) (C.wl _ _) dX5_isSame_495 rfl (Nat.le_of_ble_eq_true rfl) rfl rfl ?_
                refine v_iinc (lo' := [some (.ref (ad200 600)), some (.ref (ad200 30)), some (.ref (ad200 900)), some (.int (sumI (alO s) (p + 1))), some (.int (sumI (fun q => flO s q (nlO s q)) (p + 1))), some (.int ((nI p) + 1)), some (.ref (ad200 (700 + 20 * p))), some (.ref (ad200 901)), some (.int (nI (nlO s p))), v9, v10]) (C.wl _ _) dX5_isSame_496 rfl rfl rfl rfl ?_
                refine v_goto (tgt := 179) (C.wl _ _) dX5_isSame_499 (by decide) ?_
                refine v_lo (lo' := [some (.ref (ad200 600)), some (.ref (ad200 30)), some (.ref (ad200 900)), some (.int (sumI (alO s) (p + 1))), some (.int (sumI (fun q => flO s q (nlO s q)) (p + 1))), some (.int (nI (p + 1))), some (.ref (ad200 (700 + 20 * p))), some (.ref (ad200 901)), some (.int (nI (nlO s p))), v9, v10]) (by rw [nI_succ p]) ?_
                refine v_wide (k := 151 + 29 * (p + 1)) (n := 907 + 168 * (p + 1)) (by show 151 + 29 * p + 9 + 5 * nlO s p ≤ 151 + 29 * (p + 1); omega) (by show 907 + 168 * p + 56 + 28 * nlO s p ≤ 907 + 168 * (p + 1); omega) ?_
                have hC2 := hC.po
                refine l_drop (ad0 := ad) (m0 := wr m1 900 2 (sumI (s 15) (p + 1))) (hF1.wi (by decide) (by decide) hC.2.1.1) (fun q hq => hA200 q (by omega)) (fun q _ hq => wr_al (hQ.1 q (by omega)) _ _ _) ?_
                refine v_lo (lo' := [some (.ref (ad 600)), some (.ref (ad 30)), some (.ref (ad 900)), some (.int (sumI (alO s) (p + 1))), some (.int (sumI (fun q => flO s q (nlO s q)) (p + 1))), some (.int (nI (p + 1))), some (.ref (ad200 (700 + 20 * p))), some (.ref (ad200 901)), some (.int (nI (nlO s p))), v9, v10]) (by rw [hA200 600 (by omega), hA200 30 (by omega), hA200 900 (by omega)]) ?_
                exact ih (p + 1) _ g1 _ _ _ _ _ (by omega) (by omega) hC2 hRl
              refine v_if_eq (tgt := 493) (C.wl _ _) dX5_isSame_483 (by decide) (fun h483 => ?_) (fun h483 => ?_)
              · refine v_iconst (C.wl _ _) dX5_isSame_493 rfl ?_
                exact v_topi (alO_0 h483) J483
              · refine v_aload (C.wl _ _) dX5_isSame_486 rfl ?_
                refine v_iconst (v := 3) (C.wl _ _) dX5_isSame_488 (by decide) ?_
                refine l_iald (k := 901) (n := 8) (a := 3) C ⟨by omega, by omega⟩ ((wr_ne _ _ _ _ (Or.inl (by decide))).trans hQ.2.1.1) ((wr_ne _ _ _ _ (Or.inl (by decide))).trans hQ.2.1.2) (by decide) dX5_isSame_489 ?_
                refine v_goto (tgt := 494) (C.wl _ _) dX5_isSame_490 (by decide) ?_
                exact v_topi (((wr_ne _ _ _ _ (Or.inl (by decide))).trans (hQ.2.2 3 (by decide))).trans (alO_1 h483)) J483
            · have hkk : k < 8 := Nat.lt_of_not_le fun q => h287 ((nI_leI (a := 8) (by decide) (by omega)).mpr q)
              refine v_aload_n (C.wl _ _) dX5_isSame_290 rfl rfl ?_
              refine v_iload (C.wl _ _) dX5_isSame_291 rfl ?_
              refine v_iload (C.wl _ _) dX5_isSame_293 rfl ?_
              refine v_callX (n := 2) (k := 30) (as := [.int (nI p), .int (nI k)]) (C.wl _ _) hW9.S (x_told _ hP9 (Z.wl ad200 w278) (nI p) (nI k) s g1 hI hF9 hRl) (gv (tg3 10 rfl rfl) (tg2 48 rfl rfl) (tg2 49 rfl rfl) (tg1 1 rfl rfl) (tg2 50 rfl rfl)) (by decide +kernel) ⟨Nat.le_of_ble_eq_true rfl, Nat.le_of_ble_eq_true rfl⟩ rfl cx_T rfl rfl (Nat.le_of_ble_eq_true rfl) dX5_isSame_295 ⟨(by show 151 + 29 * p + 1 + k + 1 ≤ 400; omega), (by show 907 + 168 * p + 8 + 6 * k + 6 ≤ 2400; omega)⟩ (fun E q g295 hp295 => absurd (cdT_0 hI hp hkk) hp295.1) (fun r295 g295 hp295 => ?_)
              obtain ⟨-, hr295, hRl295, hK295⟩ := hp295
              refine v_topi (y := toldO s p k) (hr295.trans (by rw [iz_nI (by omega), iz_nI (by omega)])) ?_
              refine v_aload (C.wl _ _) dX5_isSame_298 rfl ?_
              refine v_iload (C.wl _ _) dX5_isSame_300 rfl ?_
              refine l_iald (k := 901) (n := 8) (a := k) C ⟨by omega, by omega⟩ hQ.2.1.1 hQ.2.1.2 ⟨hkk, by decide⟩ dX5_isSame_302 ?_
              refine v_topi (y := toldO s p k) (hQ.2.2 k hkk) ?_
              refine v_icmp_eq (tgt := 308) (C.wl _ _) dX5_isSame_303 (by decide) (fun h303 => ?_) (fun h303 => ?_)
              · refine v_iinc (lo' := [some (.ref (ad200 600)), some (.ref (ad200 30)), some (.ref (ad200 900)), some (.int (sumI (alO s) p)), some (.int (sumI (fun q => flO s q (nlO s q)) p)), some (.int (nI p)), some (.ref (ad200 (700 + 20 * p))), some (.ref (ad200 901)), some (.int ((nI k) + 1)), v9, v10]) (C.wl _ _) dX5_isSame_308 rfl rfl rfl rfl ?_
                refine v_goto (tgt := 283) (C.wl _ _) dX5_isSame_311 (by decide) ?_
                refine v_lo (lo' := [some (.ref (ad200 600)), some (.ref (ad200 30)), some (.ref (ad200 900)), some (.int (sumI (alO s) p)), some (.int (sumI (fun q => flO s q (nlO s q)) p)), some (.int (nI p)), some (.ref (ad200 (700 + 20 * p))), some (.ref (ad200 901)), some (.int (nI (k + 1))), v9, v10]) (by rw [nI_succ k]) ?_
                refine v_wide (k := 151 + 29 * p + 1 + (k + 1)) (n := 907 + 168 * p + 8 + 6 * (k + 1)) (by show 151 + 29 * p + 1 + k + 1 ≤ 151 + 29 * p + 1 + (k + 1); omega) (by show 907 + 168 * p + 8 + 6 * k + 6 ≤ 907 + 168 * p + 8 + 6 * (k + 1); omega) ?_
                exact ih2 (k + 1) g295 (by omega) (by omega) hRl295
              · exact absurd rfl h303
        exact inn _ 0 g1 (Nat.lt_succ_self _) (Nat.zero_le _) hRl
      refine v_if_eq (tgt := 249) (C.wl _ _) dX5_isSame_242 (by decide) (fun h242 => ?_) (fun h242 => ?_)
      · refine v_iconst (C.wl _ _) dX5_isSame_249 rfl ?_
        exact v_topi h242.symm J242
      · refine v_iconst (C.wl _ _) dX5_isSame_245 rfl ?_
        refine v_goto (tgt := 250) (C.wl _ _) dX5_isSame_246 (by decide) ?_
        exact v_topi ((IvM_01 hI (show p < 6 by omega)).resolve_left h242).symm J242
