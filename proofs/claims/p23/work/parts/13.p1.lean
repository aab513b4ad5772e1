/-! PLAIN FACTS of plans: what a line's try holds, and that two ways to tell what is left give one plan -/
theorem cntD_push (t c d : Nat) (hd : d < 10) : ∀ m, cntD (10 * t + d) c (m + 1) = cntD t c m + (if d = c then 1 else 0) := by
  intro m
  induction m with
  | zero =>
    show 0 + (if (10 * t + d) / 10 ^ 0 % 10 = c then 1 else 0) = 0 + (if d = c then 1 else 0)
    rw [Nat.pow_zero, Nat.div_one, show (10 * t + d) % 10 = d by omega]
  | succ m ih =>
    rw [cntD, ih, show cntD t c (m + 1) = cntD t c m + (if t / 10 ^ m % 10 = c then 1 else 0) from rfl]
    have e : (10 * t + d) / 10 ^ (m + 1) = t / 10 ^ m := by
      rw [Nat.pow_succ, Nat.mul_comm (10 ^ m) 10, ← Nat.div_div_eq_div_mul, show (10 * t + d) / 10 = t by omega]
    rw [e]
    omega
/-- a line's try after m letters: a word of m letters, its blocks counted, its flaws few -/
def TSI (m : Nat) (s : TS) : Prop := (∃ t, t < 10 ^ m ∧ s.2.2 = nI t ∧ ∀ l, l < 10 → s.1 l = nI (cntD t l m)) ∧ (∃ c, c ≤ m ∧ s.2.1 = nI c) ∧ ∀ l, ∃ x, x ≤ m ∧ s.1 l = nI x
theorem TSI_0 : TSI 0 ts0 := ⟨⟨0, by decide, rfl, fun _ _ => rfl⟩, ⟨0, Nat.le_refl 0, rfl⟩, fun _ => ⟨0, Nat.le_refl 0, rfl⟩⟩
theorem TSI_put {m : Nat} {s : TS} (h : TSI m s) {p : Nat} (hp : p < 10) {b : Int32} (hb : b = 0 ∨ b = 1) : TSI (m + 1) (upd s.1 p (s.1 p + 1), s.2.1 + b, 10 * s.2.2 + nI p) := by
  obtain ⟨⟨t, ht, hw, hc⟩, ⟨c, hcm, hf⟩, hx⟩ := h
  refine ⟨⟨10 * t + p, by rw [Nat.pow_succ]; omega, by show 10 * s.2.2 + nI p = _; rw [hw]; exact nI_10 t p, fun l hl => ?_⟩, ?_, fun l => ?_⟩
  · show upd s.1 p (s.1 p + 1) l = _
    rw [cntD_push t l p hp m]
    unfold upd
    by_cases hlp : l = p
    · rw [if_pos hlp, if_pos hlp.symm, ← hlp, hc l hl, nI_1]
    · rw [if_neg hlp, if_neg (Ne.symm hlp), hc l hl]; rfl
  · rcases hb with rfl | rfl
    · exact ⟨c, by omega, by show s.2.1 + 0 = _; rw [Int32.add_zero]; exact hf⟩
    · exact ⟨c + 1, by omega, by show s.2.1 + 1 = _; rw [hf, nI_1]⟩
  · show ∃ x, x ≤ m + 1 ∧ upd s.1 p (s.1 p + 1) l = nI x
    unfold upd
    by_cases hlp : l = p
    · obtain ⟨x, hxm, he⟩ := hx p
      exact ⟨x + 1, by omega, by rw [if_pos hlp, he, nI_1]⟩
    · obtain ⟨x, hxm, he⟩ := hx l
      exact ⟨x, by omega, by rw [if_neg hlp]; exact he⟩
theorem TSI_step {ok : Nat → Int32 → Bool} {ot : Nat → Int32} (hot : otI ot) {m d : Nat} {s s' : TS} (h : TSI m s) (hd : d < 10) (he : tl1 ok ot s d = some s') : TSI (m + 1) s' := by
  unfold tl1 at he
  split at he
  · cases he
    have := TSI_put h hd (b := 0) (Or.inl rfl)
    rw [Int32.add_zero] at this
    exact this
  · split at he
    · cases he
    · next hne =>
      obtain ⟨o, ho, -, hoe⟩ := (hot d hd).resolve_left hne
      split at he
      · cases he
        rw [hoe, iz_nI (by omega)]
        exact TSI_put h ho (Or.inr rfl)
      · cases he
theorem TSI_run {ok : Nat → Int32 → Bool} {ot : Nat → Int32} (hot : otI ot) (w : Nat) : ∀ (n m : Nat) (s s' : TS), TSI m s → tlR ok ot w n s = some s' → TSI (m + n) s' := by
  intro n
  induction n with
  | zero => intro m s s' h he; cases he; exact h
  | succ n ih =>
    intro m s s' h he
    unfold tlR at he
    cases hc : tl1 ok ot s (w / 10 ^ n % 10) with
    | none => rw [hc] at he; cases he
    | some s1 =>
      rw [hc] at he
      have := ih (m + 1) s1 s' (TSI_step hot h (Nat.mod_lt _ (by decide)) hc) he
      rw [show m + (n + 1) = m + 1 + n by omega]
      exact this
theorem tl1_cong {ok ok' : Nat → Int32 → Bool} {ot : Nat → Int32} (hot : otI ot) {m d : Nat} {s : TS} (h : TSI m s) (hm : m ≤ 10) (hd : d < 10) (hk : ∀ k x, k < 10 → x ≤ 10 → ok k (nI x) = ok' k (nI x)) : tl1 ok ot s d = tl1 ok' ot s d := by
  have e1 : ok d (s.1 d) = ok' d (s.1 d) := by
    obtain ⟨x, hx, he⟩ := h.2.2 d
    rw [he]; exact hk d x hd (by omega)
  unfold tl1
  rw [e1]
  by_cases hn : ot d = -1
  · simp [hn]
  · obtain ⟨o, ho, -, hoe⟩ := (hot d hd).resolve_left hn
    have e2 : ok (iz (ot d)) (s.1 (iz (ot d))) = ok' (iz (ot d)) (s.1 (iz (ot d))) := by
      rw [hoe, iz_nI (by omega)]
      obtain ⟨x, hx, he⟩ := h.2.2 o
      rw [he]; exact hk o x ho (by omega)
    rw [e2]
theorem tlR_cong {ok ok' : Nat → Int32 → Bool} {ot : Nat → Int32} (hot : otI ot) (hk : ∀ k x, k < 10 → x ≤ 10 → ok k (nI x) = ok' k (nI x)) (w : Nat) : ∀ (n m : Nat) (s : TS), TSI m s → m + n ≤ 10 → tlR ok ot w n s = tlR ok' ot w n s := by
  intro n
  induction n with
  | zero => intro m s _ _; rfl
  | succ n ih =>
    intro m s h hm
    unfold tlR
    rw [tl1_cong hot h (by omega) (Nat.mod_lt _ (by decide)) hk]
    cases hc : tl1 ok' ot s (w / 10 ^ n % 10) with
    | none => rfl
    | some s1 => exact ih (m + 1) s1 (TSI_step hot h (Nat.mod_lt _ (by decide)) hc) (by omega)
theorem bo_cong {fv fv' ht : Nat → Int32} {tall : Int32} : ∀ (n f : Nat) (s : Int32 × Int32), (∀ i, f ≤ i → i < f + n → fv i = fv' i) → bo fv ht tall n f s = bo fv' ht tall n f s := by
  intro n
  induction n with
  | zero => intro f s _; rfl
  | succ n ih =>
    intro f s h
    unfold bo
    rw [h f (Nat.le_refl f) (by omega)]
    exact ih (f + 1) _ (fun i h1 h2 => h i (by omega) (by omega))
/-- two accounts of what lines ahead took: alike where it counts, and small -/
def Rm (c : Nat) (mo mo' : Nat → Int32) : Prop := ∀ j, j < 50 → mo j = mo' j ∧ ∃ a, a ≤ c ∧ mo j = nI a
theorem Rm_spd {c : Nat} {mo mo' : Nat → Int32} (h : Rm c mo mo') {q : Nat × TS} {m : Nat} (hq : TSI m q.2) (hm : m ≤ 10) : Rm (c + 10) (spd mo q) (spd mo' q) := by
  intro j hj
  obtain ⟨h1, a, ha, he⟩ := h j hj
  unfold spd
  by_cases hc : 10 * q.1 ≤ j ∧ j < 10 * q.1 + 10
  · rw [if_pos hc, if_pos hc, h1]
    obtain ⟨x, hx, hxe⟩ := hq.2.2 (j - 10 * q.1)
    exact ⟨rfl, a + x, by omega, by rw [← h1, he, hxe, nI_add]⟩
  · rw [if_neg hc, if_neg hc]
    exact ⟨h1, a, by omega, he⟩
def okE (okf okf' : OK) (nf : Nat) : Prop := ∀ c mo mo', c ≤ 40 → Rm c mo mo' → ∀ f k x, f < nf → k < 10 → x ≤ 10 → okf mo f k (nI x) = okf' mo' f k (nI x)
theorem pl1_cong {okf okf' : OK} {ot ht : Nat → Int32} {tall : Int32} {nf : Nat} (h5 : nf ≤ 5) (hot : otI ot) (hE : okE okf okf' nf) {c : Nat} (hc : c ≤ 40) {mo mo' : Nat → Int32} (hR : Rm c mo mo') (w : Nat) : pl1 okf ot ht tall nf mo w = pl1 okf' ot ht tall nf mo' w := by
  have ht1 : ∀ f, f < nf → tlR (okf mo f) ot w (szw w) ts0 = tlR (okf' mo' f) ot w (szw w) ts0 := fun f hf => tlR_cong hot (fun k x hk hx => hE c mo mo' hc hR f k x hf hk hx) w (szw w) 0 ts0 TSI_0 (by have := @szw_le w; omega)
  have hb : boF okf ot ht tall nf mo w = boF okf' ot ht tall nf mo' w := by
    unfold boF
    rw [bo_cong (fv' := fvF okf' ot mo' w) nf 0 (0, -1) (fun i _ hi => by unfold fvF; rw [ht1 i (by omega)])]
  unfold pl1
  rw [hb]
  by_cases hn : boF okf' ot ht tall nf mo' w = -1
  · rw [if_pos hn, if_pos hn]
  · rw [if_neg hn, if_neg hn]
    have hbr : ∃ b, b < nf ∧ boF okf' ot ht tall nf mo' w = nI b := by
      have key : ∀ (n f : Nat) (s : Int32 × Int32), (s.2 = -1 ∨ ∃ b, b < f + n ∧ s.2 = nI b) → ((bo (fvF okf' ot mo' w) ht tall n f s).2 = -1 ∨ ∃ b, b < f + n ∧ (bo (fvF okf' ot mo' w) ht tall n f s).2 = nI b) := by
        intro n
        induction n with
        | zero => intro f s h; exact h
        | succ n ih =>
          intro f s h
          unfold bo
          have := ih (f + 1) (if ht f < tall then s else if btr ht (fvF okf' ot mo' w f) f s.1 s.2 then (fvF okf' ot mo' w f, nI f) else s) (by
            split
            · rcases h with h | ⟨b, h1, h2⟩
              · exact Or.inl h
              · exact Or.inr ⟨b, by omega, h2⟩
            · split
              · exact Or.inr ⟨f, by omega, rfl⟩
              · rcases h with h | ⟨b, h1, h2⟩
                · exact Or.inl h
                · exact Or.inr ⟨b, by omega, h2⟩)
          rw [show f + (n + 1) = f + 1 + n by omega]
          exact this
      have := (key nf 0 (0, -1) (Or.inl rfl)).resolve_left hn
      rw [Nat.zero_add] at this
      exact this
    obtain ⟨b, hb1, hb2⟩ := hbr
    rw [hb2, iz_nI (by omega), ht1 b hb1]
theorem pl1_TSI {okf : OK} {ot ht : Nat → Int32} {tall : Int32} {nf : Nat} (hot : otI ot) {mo : Nat → Int32} {w : Nat} {q : Nat × TS} (h : pl1 okf ot ht tall nf mo w = some q) : TSI (szw w) q.2 := by
  unfold pl1 at h
  split at h
  · cases h
  · cases hc : tlR (okf mo (iz (boF okf ot ht tall nf mo w))) ot w (szw w) ts0 with
    | none => rw [hc] at h; cases h
    | some s =>
      rw [hc] at h
      cases h
      have := TSI_run hot w (szw w) 0 ts0 s TSI_0 hc
      rw [Nat.zero_add] at this
      exact this
def plE (o o' : Option (List (Nat × TS) × (Nat → Int32))) : Prop := match o, o' with
  | none, none => True
  | some a, some b => a.1 = b.1 ∧ Rm 40 a.2 b.2
  | _, _ => False
theorem Rm.mono {c d : Nat} {mo mo' : Nat → Int32} (h : Rm c mo mo') (hcd : c ≤ d) : Rm d mo mo' := fun j hj => ⟨(h j hj).1, (h j hj).2.imp fun a ha => ⟨by omega, ha.2⟩⟩
theorem plA_cong {okf okf' : OK} {ot ht : Nat → Int32} {tall : Int32} {nf : Nat} (h5 : nf ≤ 5) (hot : otI ot) (hE : okE okf okf' nf) : ∀ (ws : List Nat) (acc : List (Nat × TS)) (mo mo' : Nat → Int32) (c : Nat), Rm c mo mo' → c + 10 * ws.length ≤ 40 → plE (plA okf ot ht tall nf ws acc mo) (plA okf' ot ht tall nf ws acc mo') := by
  intro ws
  induction ws with
  | nil => intro acc mo mo' c h hc; exact ⟨rfl, h.mono (by simpa using hc)⟩
  | cons w ws ih =>
    intro acc mo mo' c h hc
    rw [List.length_cons] at hc
    unfold plA
    rw [pl1_cong h5 hot hE (by omega) h w]
    cases hq : pl1 okf' ot ht tall nf mo' w with
    | none => exact trivial
    | some q => exact ih _ _ _ (c + 10) (Rm_spd h (pl1_TSI hot hq) szw_le) (by omega)
/-- each line of a plan: its fount, and what its try holds -/
def plI (wsz : List Nat) (L : List (Nat × TS)) : Prop := L.length = wsz.length ∧ ∀ (i : Nat) (q : Nat × TS), L[i]? = some q → q.1 < 5 ∧ ∃ w, wsz[i]? = some w ∧ TSI (szw w) q.2
theorem pl1_lt {okf : OK} {ot ht : Nat → Int32} {tall : Int32} {nf : Nat} (h5 : nf ≤ 5) {mo : Nat → Int32} {w : Nat} {q : Nat × TS} (h : pl1 okf ot ht tall nf mo w = some q) : q.1 < 5 := by
  unfold pl1 at h
  split at h
  · cases h
  · next hn =>
    obtain ⟨b, hb, hbe, -, -⟩ := (bo_ok (fv := fvF okf ot mo w) (ht := ht) (tall := tall) nf 0 (0, -1) (by omega) (Or.inl rfl)).resolve_left hn
    cases hc : tlR (okf mo (iz (boF okf ot ht tall nf mo w))) ot w (szw w) ts0 with
    | none => rw [hc] at h; cases h
    | some s =>
      rw [hc] at h
      cases h
      show iz (boF okf ot ht tall nf mo w) < 5
      unfold boF
      rw [hbe, iz_nI (by omega)]
      exact hb
theorem plA_I {okf : OK} {ot ht : Nat → Int32} {tall : Int32} {nf : Nat} (h5 : nf ≤ 5) (hot : otI ot) : ∀ (ws pre : List Nat) (acc : List (Nat × TS)) (mo : Nat → Int32) (a : List (Nat × TS) × (Nat → Int32)), plI pre acc → plA okf ot ht tall nf ws acc mo = some a → plI (pre ++ ws) a.1 := by
  intro ws
  induction ws with
  | nil => intro pre acc mo a h he; cases he; rw [List.append_nil]; exact h
  | cons w ws ih =>
    intro pre acc mo a h he
    unfold plA at he
    cases hq : pl1 okf ot ht tall nf mo w with
    | none => rw [hq] at he; cases he
    | some q =>
      rw [hq] at he
      have := ih (pre ++ [w]) (acc ++ [q]) (spd mo q) a ⟨by rw [List.length_append, List.length_append, h.1]; rfl, fun i q' hi => by
        by_cases hlt : i < acc.length
        · rw [List.getElem?_append_left hlt] at hi
          obtain ⟨h1, w', h2, h3⟩ := h.2 i q' hi
          exact ⟨h1, w', by rw [List.getElem?_append_left (by rw [← h.1]; exact hlt)]; exact h2, h3⟩
        · have hie : i = acc.length := by
            have h9 := (List.getElem?_eq_some_iff.mp hi).1
            rw [List.length_append, List.length_singleton] at h9
            omega
          subst hie
          rw [List.getElem?_append_right (Nat.le_refl _), Nat.sub_self] at hi
          cases hi
          exact ⟨pl1_lt h5 hq, w, by rw [h.1, List.getElem?_append_right (Nat.le_refl _), Nat.sub_self]; rfl, pl1_TSI hot hq⟩⟩ he
      rw [List.append_assoc] at this
      exact this
theorem flS_nI {L : List (Nat × TS)} (h : ∀ q ∈ L, ∃ c, c ≤ 10 ∧ q.2.2.1 = nI c) : ∃ C, C ≤ 10 * L.length ∧ flS L = nI C := by
  have key : ∀ (L : List (Nat × TS)) (a : Nat), (∀ q ∈ L, ∃ c, c ≤ 10 ∧ q.2.2.1 = nI c) → ∃ C, C ≤ a + 10 * L.length ∧ L.foldl (fun a q => a + q.2.2.1) (nI a) = nI C := by
    intro L
    induction L with
    | nil => intro a _; exact ⟨a, by omega, rfl⟩
    | cons q L ih =>
      intro a h
      obtain ⟨c, hc, he⟩ := h q List.mem_cons_self
      obtain ⟨C, h1, h2⟩ := ih (a + c) (fun q' hq' => h q' (List.mem_cons_of_mem _ hq'))
      refine ⟨C, by rw [List.length_cons]; omega, ?_⟩
      rw [List.foldl_cons, he, nI_add]
      exact h2
  obtain ⟨C, h1, h2⟩ := key L 0 h
  exact ⟨C, by omega, h2⟩
theorem plI_fl {wsz : List Nat} {L : List (Nat × TS)} (h : plI wsz L) : ∃ C, C ≤ 10 * L.length ∧ flS L = nI C := by
  refine flS_nI fun q hq => ?_
  obtain ⟨i, hi⟩ := List.getElem?_of_mem hq
  obtain ⟨-, w, -, -, ⟨c, hc, he⟩, -⟩ := h.2 i q hi
  exact ⟨c, by have := @szw_le w; omega, he⟩
theorem wds_len (wd : Nat → Nat) (p k n : Nat) : (wds wd p k n).length = n - k := by simp [wds]
theorem wds_get (wd : Nat → Nat) (p : Nat) {i n : Nat} (h : i < n) : (wds wd p 0 n)[i]? = some (wd (4 * p + i)) := by
  simp [wds, List.getElem?_range', h]
