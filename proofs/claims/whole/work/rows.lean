section
-- ===== PART A: goes FIRST, ahead of the names: the tables' words, and 'selects' of the private methods out of them =====
/-- a private method of a class that the tables say can be made, by its rows of tables_1 -/
def lw_okq (q : MethodName × Nat) : Prop := (q.1.cls ≠ "java/lang/invoke/MethodHandle" ∧ q.1.cls ≠ "java/lang/invoke/VarHandle") ∧ Cond.instantiable q.1.cls q.2 ∈ tables_1 ∧ Cond.privateMethod q.1 ∈ tables_1 ∧ Cond.instanceMethod q.1 ∈ tables_1
theorem lw_p0 : lw_okq (⟨"PosterTypes", "proofIfSet", "(LPosterTypes$Poster;)I"⟩, 7) := ⟨⟨by decide +kernel, by decide +kernel⟩, List.mem_of_getElem? (i := 22) (by decide +kernel), List.mem_of_getElem? (i := 105) (by decide +kernel), List.mem_of_getElem? (i := 106) (by decide +kernel)⟩
theorem lw_p1 : lw_okq (⟨"PosterTypes", "plan", "(LPosterTypes$Poster;)I"⟩, 7) := ⟨⟨by decide +kernel, by decide +kernel⟩, List.mem_of_getElem? (i := 22) (by decide +kernel), List.mem_of_getElem? (i := 109) (by decide +kernel), List.mem_of_getElem? (i := 110) (by decide +kernel)⟩
theorem lw_p2 : lw_okq (⟨"PosterTypes", "leaveAllFree", "()V"⟩, 7) := ⟨⟨by decide +kernel, by decide +kernel⟩, List.mem_of_getElem? (i := 22) (by decide +kernel), List.mem_of_getElem? (i := 121) (by decide +kernel), List.mem_of_getElem? (i := 122) (by decide +kernel)⟩
theorem lw_p3 : lw_okq (⟨"PosterTypes", "layLines", "(LPosterTypes$Poster;)I"⟩, 7) := ⟨⟨by decide +kernel, by decide +kernel⟩, List.mem_of_getElem? (i := 22) (by decide +kernel), List.mem_of_getElem? (i := 133) (by decide +kernel), List.mem_of_getElem? (i := 134) (by decide +kernel)⟩
theorem lw_p4 : lw_okq (⟨"PosterTypes", "bestFount", "(LPosterTypes$Line;I)LPosterTypes$Fount;"⟩, 7) := ⟨⟨by decide +kernel, by decide +kernel⟩, List.mem_of_getElem? (i := 22) (by decide +kernel), List.mem_of_getElem? (i := 138) (by decide +kernel), List.mem_of_getElem? (i := 139) (by decide +kernel)⟩
theorem lw_p5 : lw_okq (⟨"PosterTypes", "lay", "(LPosterTypes$Line;LPosterTypes$Fount;)Z"⟩, 7) := ⟨⟨by decide +kernel, by decide +kernel⟩, List.mem_of_getElem? (i := 22) (by decide +kernel), List.mem_of_getElem? (i := 142) (by decide +kernel), List.mem_of_getElem? (i := 143) (by decide +kernel)⟩
theorem lw_p6 : lw_okq (⟨"PosterTypes", "blockFor", "(ILPosterTypes$Line;LPosterTypes$Fount;)I"⟩, 7) := ⟨⟨by decide +kernel, by decide +kernel⟩, List.mem_of_getElem? (i := 22) (by decide +kernel), List.mem_of_getElem? (i := 151) (by decide +kernel), List.mem_of_getElem? (i := 152) (by decide +kernel)⟩
theorem lw_p7 : lw_okq (⟨"PosterTypes", "proofAsLaid", "(LPosterTypes$Poster;)I"⟩, 7) := ⟨⟨by decide +kernel, by decide +kernel⟩, List.mem_of_getElem? (i := 22) (by decide +kernel), List.mem_of_getElem? (i := 163) (by decide +kernel), List.mem_of_getElem? (i := 164) (by decide +kernel)⟩
theorem lw_p8 : lw_okq (⟨"PosterTypes", "postersSet", "()I"⟩, 7) := ⟨⟨by decide +kernel, by decide +kernel⟩, List.mem_of_getElem? (i := 22) (by decide +kernel), List.mem_of_getElem? (i := 202) (by decide +kernel), List.mem_of_getElem? (i := 203) (by decide +kernel)⟩
theorem lw_p9 : lw_okq (⟨"PosterTypes", "blocksInAll", "()I"⟩, 7) := ⟨⟨by decide +kernel, by decide +kernel⟩, List.mem_of_getElem? (i := 22) (by decide +kernel), List.mem_of_getElem? (i := 206) (by decide +kernel), List.mem_of_getElem? (i := 207) (by decide +kernel)⟩
theorem lw_p10 : lw_okq (⟨"PosterTypes", "freeInAll", "()I"⟩, 7) := ⟨⟨by decide +kernel, by decide +kernel⟩, List.mem_of_getElem? (i := 22) (by decide +kernel), List.mem_of_getElem? (i := 210) (by decide +kernel), List.mem_of_getElem? (i := 211) (by decide +kernel)⟩
theorem lw_p11 : lw_okq (⟨"java/lang/Throwable", "fillInStackTrace", "(I)Ljava/lang/Throwable;"⟩, 6) := ⟨⟨by decide +kernel, by decide +kernel⟩, List.mem_of_getElem? (i := 252) (by decide +kernel), List.mem_of_getElem? (i := 250) (by decide +kernel), List.mem_of_getElem? (i := 251) (by decide +kernel)⟩
theorem lw_p12 : lw_okq (⟨"PosterTypes", "mixedWithFount", "(JI)J"⟩, 7) := ⟨⟨by decide +kernel, by decide +kernel⟩, List.mem_of_getElem? (i := 22) (by decide +kernel), List.mem_of_getElem? (i := 286) (by decide +kernel), List.mem_of_getElem? (i := 287) (by decide +kernel)⟩
theorem lw_p13 : lw_okq (⟨"PosterTypes", "isFount", "(I)Z"⟩, 7) := ⟨⟨by decide +kernel, by decide +kernel⟩, List.mem_of_getElem? (i := 22) (by decide +kernel), List.mem_of_getElem? (i := 294) (by decide +kernel), List.mem_of_getElem? (i := 295) (by decide +kernel)⟩
theorem lw_p14 : lw_okq (⟨"PosterTypes", "mixedWithPoster", "(JI)J"⟩, 7) := ⟨⟨by decide +kernel, by decide +kernel⟩, List.mem_of_getElem? (i := 22) (by decide +kernel), List.mem_of_getElem? (i := 303) (by decide +kernel), List.mem_of_getElem? (i := 304) (by decide +kernel)⟩
theorem lw_p15 : lw_okq (⟨"PosterTypes", "isPoster", "(I)Z"⟩, 7) := ⟨⟨by decide +kernel, by decide +kernel⟩, List.mem_of_getElem? (i := 22) (by decide +kernel), List.mem_of_getElem? (i := 311) (by decide +kernel), List.mem_of_getElem? (i := 312) (by decide +kernel)⟩
def lw_privs_1 : List (MethodName × Nat) := [(⟨"PosterTypes", "proofIfSet", "(LPosterTypes$Poster;)I"⟩, 7), (⟨"PosterTypes", "plan", "(LPosterTypes$Poster;)I"⟩, 7), (⟨"PosterTypes", "leaveAllFree", "()V"⟩, 7), (⟨"PosterTypes", "layLines", "(LPosterTypes$Poster;)I"⟩, 7), (⟨"PosterTypes", "bestFount", "(LPosterTypes$Line;I)LPosterTypes$Fount;"⟩, 7), (⟨"PosterTypes", "lay", "(LPosterTypes$Line;LPosterTypes$Fount;)Z"⟩, 7), (⟨"PosterTypes", "blockFor", "(ILPosterTypes$Line;LPosterTypes$Fount;)I"⟩, 7), (⟨"PosterTypes", "proofAsLaid", "(LPosterTypes$Poster;)I"⟩, 7), (⟨"PosterTypes", "postersSet", "()I"⟩, 7), (⟨"PosterTypes", "blocksInAll", "()I"⟩, 7), (⟨"PosterTypes", "freeInAll", "()I"⟩, 7), (⟨"java/lang/Throwable", "fillInStackTrace", "(I)Ljava/lang/Throwable;"⟩, 6), (⟨"PosterTypes", "mixedWithFount", "(JI)J"⟩, 7), (⟨"PosterTypes", "isFount", "(I)Z"⟩, 7), (⟨"PosterTypes", "mixedWithPoster", "(JI)J"⟩, 7), (⟨"PosterTypes", "isPoster", "(I)Z"⟩, 7)]
theorem lw_r1 : ∀ q ∈ lw_privs_1, lw_okq q := List.forall_mem_cons.mpr ⟨lw_p0, List.forall_mem_cons.mpr ⟨lw_p1, List.forall_mem_cons.mpr ⟨lw_p2, List.forall_mem_cons.mpr ⟨lw_p3, List.forall_mem_cons.mpr ⟨lw_p4, List.forall_mem_cons.mpr ⟨lw_p5, List.forall_mem_cons.mpr ⟨lw_p6, List.forall_mem_cons.mpr ⟨lw_p7, List.forall_mem_cons.mpr ⟨lw_p8, List.forall_mem_cons.mpr ⟨lw_p9, List.forall_mem_cons.mpr ⟨lw_p10, List.forall_mem_cons.mpr ⟨lw_p11, List.forall_mem_cons.mpr ⟨lw_p12, List.forall_mem_cons.mpr ⟨lw_p13, List.forall_mem_cons.mpr ⟨lw_p14, List.forall_mem_cons.mpr ⟨lw_p15, fun _ h => absurd h List.not_mem_nil⟩⟩⟩⟩⟩⟩⟩⟩⟩⟩⟩⟩⟩⟩⟩⟩
theorem lw_p16 : lw_okq (⟨"java/util/ArrayList", "add", "(Ljava/lang/Object;[Ljava/lang/Object;I)V"⟩, 3) := ⟨⟨by decide +kernel, by decide +kernel⟩, List.mem_of_getElem? (i := 30) (by decide +kernel), List.mem_of_getElem? (i := 405) (by decide +kernel), List.mem_of_getElem? (i := 406) (by decide +kernel)⟩
theorem lw_p17 : lw_okq (⟨"java/util/ArrayList", "grow", "()[Ljava/lang/Object;"⟩, 3) := ⟨⟨by decide +kernel, by decide +kernel⟩, List.mem_of_getElem? (i := 30) (by decide +kernel), List.mem_of_getElem? (i := 409) (by decide +kernel), List.mem_of_getElem? (i := 410) (by decide +kernel)⟩
theorem lw_p18 : lw_okq (⟨"java/util/ArrayList", "grow", "(I)[Ljava/lang/Object;"⟩, 3) := ⟨⟨by decide +kernel, by decide +kernel⟩, List.mem_of_getElem? (i := 30) (by decide +kernel), List.mem_of_getElem? (i := 413) (by decide +kernel), List.mem_of_getElem? (i := 414) (by decide +kernel)⟩
theorem lw_p19 : lw_okq (⟨"PosterTypes", "planWithOneMore", "(LPosterTypes$Poster;LPosterTypes$Fount;I)I"⟩, 7) := ⟨⟨by decide +kernel, by decide +kernel⟩, List.mem_of_getElem? (i := 22) (by decide +kernel), List.mem_of_getElem? (i := 649) (by decide +kernel), List.mem_of_getElem? (i := 650) (by decide +kernel)⟩
theorem lw_p20 : lw_okq (⟨"PosterTypesModel", "no", "(I)I"⟩, 27) := ⟨⟨by decide +kernel, by decide +kernel⟩, List.mem_of_getElem? (i := 670) (by decide +kernel), List.mem_of_getElem? (i := 769) (by decide +kernel), List.mem_of_getElem? (i := 770) (by decide +kernel)⟩
theorem lw_p21 : lw_okq (⟨"PosterTypesModel", "isFount", "(I)Z"⟩, 27) := ⟨⟨by decide +kernel, by decide +kernel⟩, List.mem_of_getElem? (i := 670) (by decide +kernel), List.mem_of_getElem? (i := 777) (by decide +kernel), List.mem_of_getElem? (i := 778) (by decide +kernel)⟩
theorem lw_p22 : lw_okq (⟨"PosterTypesModel", "isPoster", "(I)Z"⟩, 27) := ⟨⟨by decide +kernel, by decide +kernel⟩, List.mem_of_getElem? (i := 670) (by decide +kernel), List.mem_of_getElem? (i := 808) (by decide +kernel), List.mem_of_getElem? (i := 809) (by decide +kernel)⟩
theorem lw_p23 : lw_okq (⟨"PosterTypesModel", "tryPoster", "(I)I"⟩, 27) := ⟨⟨by decide +kernel, by decide +kernel⟩, List.mem_of_getElem? (i := 670) (by decide +kernel), List.mem_of_getElem? (i := 817) (by decide +kernel), List.mem_of_getElem? (i := 818) (by decide +kernel)⟩
theorem lw_p24 : lw_okq (⟨"PosterTypesModel", "bestOf", "(II)I"⟩, 27) := ⟨⟨by decide +kernel, by decide +kernel⟩, List.mem_of_getElem? (i := 670) (by decide +kernel), List.mem_of_getElem? (i := 821) (by decide +kernel), List.mem_of_getElem? (i := 822) (by decide +kernel)⟩
theorem lw_p25 : lw_okq (⟨"PosterTypesModel", "tryLine", "(II)I"⟩, 27) := ⟨⟨by decide +kernel, by decide +kernel⟩, List.mem_of_getElem? (i := 670) (by decide +kernel), List.mem_of_getElem? (i := 825) (by decide +kernel), List.mem_of_getElem? (i := 826) (by decide +kernel)⟩
theorem lw_p26 : lw_okq (⟨"PosterTypesModel", "isLeft", "(II)Z"⟩, 27) := ⟨⟨by decide +kernel, by decide +kernel⟩, List.mem_of_getElem? (i := 670) (by decide +kernel), List.mem_of_getElem? (i := 835) (by decide +kernel), List.mem_of_getElem? (i := 836) (by decide +kernel)⟩
theorem lw_p27 : lw_okq (⟨"PosterTypesModel", "isBetter", "(IIII)Z"⟩, 27) := ⟨⟨by decide +kernel, by decide +kernel⟩, List.mem_of_getElem? (i := 670) (by decide +kernel), List.mem_of_getElem? (i := 839) (by decide +kernel), List.mem_of_getElem? (i := 840) (by decide +kernel)⟩
theorem lw_p28 : lw_okq (⟨"PosterTypesModel", "outOf", "(III)I"⟩, 27) := ⟨⟨by decide +kernel, by decide +kernel⟩, List.mem_of_getElem? (i := 670) (by decide +kernel), List.mem_of_getElem? (i := 848) (by decide +kernel), List.mem_of_getElem? (i := 849) (by decide +kernel)⟩
theorem lw_p29 : lw_okq (⟨"PosterTypesModel", "proof", "(I)I"⟩, 27) := ⟨⟨by decide +kernel, by decide +kernel⟩, List.mem_of_getElem? (i := 670) (by decide +kernel), List.mem_of_getElem? (i := 852) (by decide +kernel), List.mem_of_getElem? (i := 853) (by decide +kernel)⟩
theorem lw_p30 : lw_okq (⟨"PosterTypesModel", "flawsOf", "(I)I"⟩, 27) := ⟨⟨by decide +kernel, by decide +kernel⟩, List.mem_of_getElem? (i := 670) (by decide +kernel), List.mem_of_getElem? (i := 856) (by decide +kernel), List.mem_of_getElem? (i := 857) (by decide +kernel)⟩
theorem lw_p31 : lw_okq (⟨"PosterTypesModel", "worth", "(III)I"⟩, 27) := ⟨⟨by decide +kernel, by decide +kernel⟩, List.mem_of_getElem? (i := 670) (by decide +kernel), List.mem_of_getElem? (i := 860) (by decide +kernel), List.mem_of_getElem? (i := 861) (by decide +kernel)⟩
def lw_privs_2 : List (MethodName × Nat) := [(⟨"java/util/ArrayList", "add", "(Ljava/lang/Object;[Ljava/lang/Object;I)V"⟩, 3), (⟨"java/util/ArrayList", "grow", "()[Ljava/lang/Object;"⟩, 3), (⟨"java/util/ArrayList", "grow", "(I)[Ljava/lang/Object;"⟩, 3), (⟨"PosterTypes", "planWithOneMore", "(LPosterTypes$Poster;LPosterTypes$Fount;I)I"⟩, 7), (⟨"PosterTypesModel", "no", "(I)I"⟩, 27), (⟨"PosterTypesModel", "isFount", "(I)Z"⟩, 27), (⟨"PosterTypesModel", "isPoster", "(I)Z"⟩, 27), (⟨"PosterTypesModel", "tryPoster", "(I)I"⟩, 27), (⟨"PosterTypesModel", "bestOf", "(II)I"⟩, 27), (⟨"PosterTypesModel", "tryLine", "(II)I"⟩, 27), (⟨"PosterTypesModel", "isLeft", "(II)Z"⟩, 27), (⟨"PosterTypesModel", "isBetter", "(IIII)Z"⟩, 27), (⟨"PosterTypesModel", "outOf", "(III)I"⟩, 27), (⟨"PosterTypesModel", "proof", "(I)I"⟩, 27), (⟨"PosterTypesModel", "flawsOf", "(I)I"⟩, 27), (⟨"PosterTypesModel", "worth", "(III)I"⟩, 27)]
theorem lw_r2 : ∀ q ∈ lw_privs_2, lw_okq q := List.forall_mem_cons.mpr ⟨lw_p16, List.forall_mem_cons.mpr ⟨lw_p17, List.forall_mem_cons.mpr ⟨lw_p18, List.forall_mem_cons.mpr ⟨lw_p19, List.forall_mem_cons.mpr ⟨lw_p20, List.forall_mem_cons.mpr ⟨lw_p21, List.forall_mem_cons.mpr ⟨lw_p22, List.forall_mem_cons.mpr ⟨lw_p23, List.forall_mem_cons.mpr ⟨lw_p24, List.forall_mem_cons.mpr ⟨lw_p25, List.forall_mem_cons.mpr ⟨lw_p26, List.forall_mem_cons.mpr ⟨lw_p27, List.forall_mem_cons.mpr ⟨lw_p28, List.forall_mem_cons.mpr ⟨lw_p29, List.forall_mem_cons.mpr ⟨lw_p30, List.forall_mem_cons.mpr ⟨lw_p31, fun _ h => absurd h List.not_mem_nil⟩⟩⟩⟩⟩⟩⟩⟩⟩⟩⟩⟩⟩⟩⟩⟩
theorem lw_p32 : lw_okq (⟨"PosterTypesModel", "blockTold", "(II)I"⟩, 27) := ⟨⟨by decide +kernel, by decide +kernel⟩, List.mem_of_getElem? (i := 670) (by decide +kernel), List.mem_of_getElem? (i := 873) (by decide +kernel), List.mem_of_getElem? (i := 874) (by decide +kernel)⟩
theorem lw_p33 : lw_okq (⟨"PosterTypesModel", "posterTold", "(II)I"⟩, 27) := ⟨⟨by decide +kernel, by decide +kernel⟩, List.mem_of_getElem? (i := 670) (by decide +kernel), List.mem_of_getElem? (i := 881) (by decide +kernel), List.mem_of_getElem? (i := 882) (by decide +kernel)⟩
theorem lw_p34 : lw_okq (⟨"PosterTypesModel", "letters", "(I)I"⟩, 27) := ⟨⟨by decide +kernel, by decide +kernel⟩, List.mem_of_getElem? (i := 670) (by decide +kernel), List.mem_of_getElem? (i := 885) (by decide +kernel), List.mem_of_getElem? (i := 886) (by decide +kernel)⟩
theorem lw_p35 : lw_okq (⟨"PosterTypesModel", "lineTold", "(III)I"⟩, 27) := ⟨⟨by decide +kernel, by decide +kernel⟩, List.mem_of_getElem? (i := 670) (by decide +kernel), List.mem_of_getElem? (i := 893) (by decide +kernel), List.mem_of_getElem? (i := 894) (by decide +kernel)⟩
theorem lw_p36 : lw_okq (⟨"PosterTypesModel", "counted", "(I)I"⟩, 27) := ⟨⟨by decide +kernel, by decide +kernel⟩, List.mem_of_getElem? (i := 670) (by decide +kernel), List.mem_of_getElem? (i := 901) (by decide +kernel), List.mem_of_getElem? (i := 902) (by decide +kernel)⟩
theorem lw_p37 : lw_okq (⟨"PosterTypesModel", "proofTried", "(I)I"⟩, 27) := ⟨⟨by decide +kernel, by decide +kernel⟩, List.mem_of_getElem? (i := 670) (by decide +kernel), List.mem_of_getElem? (i := 912) (by decide +kernel), List.mem_of_getElem? (i := 913) (by decide +kernel)⟩
theorem lw_p38 : lw_okq (⟨"PosterTypesModel", "adviseTold", "(I)I"⟩, 27) := ⟨⟨by decide +kernel, by decide +kernel⟩, List.mem_of_getElem? (i := 670) (by decide +kernel), List.mem_of_getElem? (i := 924) (by decide +kernel), List.mem_of_getElem? (i := 925) (by decide +kernel)⟩
def lw_privs_3 : List (MethodName × Nat) := [(⟨"PosterTypesModel", "blockTold", "(II)I"⟩, 27), (⟨"PosterTypesModel", "posterTold", "(II)I"⟩, 27), (⟨"PosterTypesModel", "letters", "(I)I"⟩, 27), (⟨"PosterTypesModel", "lineTold", "(III)I"⟩, 27), (⟨"PosterTypesModel", "counted", "(I)I"⟩, 27), (⟨"PosterTypesModel", "proofTried", "(I)I"⟩, 27), (⟨"PosterTypesModel", "adviseTold", "(I)I"⟩, 27)]
theorem lw_r3 : ∀ q ∈ lw_privs_3, lw_okq q := List.forall_mem_cons.mpr ⟨lw_p32, List.forall_mem_cons.mpr ⟨lw_p33, List.forall_mem_cons.mpr ⟨lw_p34, List.forall_mem_cons.mpr ⟨lw_p35, List.forall_mem_cons.mpr ⟨lw_p36, List.forall_mem_cons.mpr ⟨lw_p37, List.forall_mem_cons.mpr ⟨lw_p38, fun _ h => absurd h List.not_mem_nil⟩⟩⟩⟩⟩⟩⟩
def lw_privs : List (MethodName × Nat) := lw_privs_1 ++ (lw_privs_2 ++ (lw_privs_3))
def lw_tbl : List Cond := k2_sels lw_privs ++ tables_1
theorem lw_privs_ok : ∀ q ∈ lw_privs, lw_okq q := by
  show ∀ q ∈ lw_privs_1 ++ (lw_privs_2 ++ (lw_privs_3)), lw_okq q
  exact List.forall_mem_append.mpr ⟨lw_r1, List.forall_mem_append.mpr ⟨lw_r2, lw_r3⟩⟩
/-- the streams that the claim lets the run draw from -/
abbrev lw_cs : List Choice := [Jvm.Choice.named "NaN.bits"]
theorem lw_bits : nanBits ∈ lw_cs := by first | decide | exact List.mem_cons_self | simp [lw_cs, nanBits]
-- ===== end of PART A; then your names; then what follows =====
end
section
/-! ===== BEGIN words of one list among another's, by their places ===== -/
theorem goodIn_r {big : List Cond} (ws : List Cond) (ps : List Nat) (hp : ws = ps.filterMap (fun i => big[i]?)) (h : ws.all goodWord = true) : GoodIn big ws := by
  intro w hw
  have h1 := List.all_eq_true.mp h w hw
  rw [hp] at hw
  obtain ⟨i, -, hi⟩ := List.mem_filterMap.mp hw
  have hm : w ∈ big := by first | exact List.mem_of_getElem? hi | exact List.getElem?_mem hi
  exact ⟨hm, good_of_word h1⟩
theorem goodIn_app {big a b : List Cond} (ha : GoodIn big a) (hb : GoodIn big b) : GoodIn big (a ++ b) := fun w h => (List.mem_append.mp h).elim (ha w) (hb w)
theorem goodIn_ca {big a b : List Cond} {c : Cond} (ha : GoodIn big (c :: a)) (hb : GoodIn big b) : GoodIn big (c :: (a ++ b)) := fun w h => (List.mem_cons.mp h).elim (fun e => ha w (List.mem_cons.mpr (Or.inl e))) (fun h => (List.mem_append.mp h).elim (fun h => ha w (List.mem_cons.mpr (Or.inr h))) (hb w))
theorem goodIn_sub {big ws : List Cond} (hm : ∀ w ∈ ws, w ∈ big) (h : ws.all goodWord = true) : GoodIn big ws := fun w hw => ⟨hm w hw, good_of_word (List.all_eq_true.mp h w hw)⟩
/-! ===== END ===== -/

/-! ===== BEGIN exceptions that leave a method, and their catching by the caller (launches without stack traces) ===== -/
section VXA
/-! The laws vx_back, vx_callV, vx_callS, vx_callSW, vx_throw0, vx_throwS follow proofs of the library, with one case more: JvmDerived/Free/Laws.lean (Back.of_free), Shelf42/LK1.lean (callV, callS), Shelf/KitTraced.lean (throwNew0V, throwNewS). -/
/-- where a method has thrown q: the class by its name, the cell, what was written, the world -/
def vx_T (XC : String → State → State → Prop) (st : State) (q : Addr) (t : State) (mc ms : Nat) (free : Addr → Prop) : Prop :=
  ∃ (E : String) (ce : Cell) (L : List Loc), XC E st t ∧ t.heap[q]? = some ce ∧ ce.vm = .none ∧ st.vm.findClass E = some ce.cls ∧ st.WarmedH t.vm ∧ st.sameButNew ({ t with vm := st.vm } : State) L mc ms ∧ ∀ z ∈ L, free z.base
def vx_Q (Qc : Array Value → State → Outcome → State → Prop) (XC : String → State → State → Prop) (mc ms : Nat) (free : Addr → Prop) : Array Value → State → Outcome → State → Prop := fun a st o t =>
  (Qc a st o t ∧ ∃ L, FrameEnd st o t L mc ms ∧ ∀ q ∈ L, free q.base) ∨ ∃ q, o = .threw q ∧ vx_T XC st q t mc ms free
/-- a callee that returns or throws -/
def vx_Met (l : Launch) (y : MethodName) (ws : List Cond) (rm : Room) (Pc : Array Value → State → Prop) (Qc : Array Value → State → Outcome → State → Prop) (XC : String → State → State → Prop) (mc ms : Nat) (free : Addr → Prop) : Prop :=
  MetFree l y (headSpec ws rm) Pc (fun _ _ _ _ _ => True) (vx_Q Qc XC mc ms free)
def vx_Post (XC : String → State → State → Prop) (mc ms : Nat) (free : Addr → Prop) : Pt → Array Value → Addr → Pt → Prop := fun A a q B =>
  ∃ (g : JFrame) (mk : MethodId) (t : State) (L : List Loc) (E : String) (ce : Cell), B.U.heap = t.heap ∧ B.U.vm = t.vm ∧ XC E (A.U.calling g mk a) t ∧ t.heap[q]? = some ce ∧ ce.vm = .none ∧ A.U.vm.findClass E = some ce.cls ∧ B.locs = A.locs ++ L ∧ (∀ z ∈ L, free z.base) ∧ B.cells = A.cells + mc ∧ B.slots = A.slots + ms
def vx_Back (l : Launch) (R : Room) (p : Program) (e : Env) (below : List Frame) (s : State) (sargs : Array Value) (y : MethodName) (len W9 : Nat)
    (Pre : Pt → Array Value → Prop) (Post : Pt → Array Value → Option Value → Pt → Prop) (PostX : Pt → Array Value → Addr → Pt → Prop) : Prop :=
  ∀ (m : MethodId) (meth : Method) (c : Code) (A : Pt) (g : JFrame) (ig : Instr) (mk : MethodId) (a : Array Value),
    Stand p l e R s m sargs below meth c A.U A.locs A.cells A.slots → g.method = m → g.locals.size = c.maxLocals → decode c.code g.pc = .ok (ig, len) →
    2 * g.monitorRoom + (g.stack.map fun v => v.category).sum ≤ W9 → A.U.methodNamed? y = some mk → Pre A a →
    (∃ (v : Option Value) (B : Pt), Stand p l e R s m sargs below meth c B.U B.locs B.cells B.slots ∧ Post A a v B ∧
      Steps p.tables e below (doInvoke e (A.U.setTop g) [] mk a).1 (B.U.setTop { g with pc := g.pc + len, stack := v.toList ++ g.stack })) ∨
    (∃ (q : Addr) (B : Pt), Stand p l e R s m sargs below meth c B.U B.locs B.cells B.slots ∧ PostX A a q B ∧
      Steps p.tables e below (doInvoke e (A.U.setTop g) [] mk a).1 ((B.U.setTop g).pushFrame (.throwing q)))
section Payer
variable {l : Launch} {R : Room} {p : Program} {e : Env} {below : List Frame} {s : State} {sargs : Array Value} {y : MethodName} {len W9 : Nat}
theorem vx_back {ws : List Cond} {rm : Room} {Pc : Array Value → State → Prop} {Qc : Array Value → State → Outcome → State → Prop} {XC : String → State → State → Prop} {mc ms : Nat} {free : Addr → Prop} {bytes : ByteArray} {maxL : Nat} {ret : Option FieldType}
    (hM : vx_Met l y ws rm Pc Qc XC mc ms free) (hblind : FrameBlind Pc) (hrc : rm.cells = mc) (hrs : rm.slots = ms)
    (hframes : rm.frames + 1 ≤ R.frames) (hlocals : W9 + (maxL + 11) + rm.locals ≤ R.locals)
    (hws : ∀ w ∈ ws, ∀ a' U, s.WarmedH U.vm → w.before a' U = true) (hcode : Cond.code y bytes maxL ret ∈ ws) (hinit : ∀ a' U, s.WarmedH U.vm → (Cond.initialized y.cls).before a' U = true) :
    vx_Back l R p e below s sargs y len W9 (PreOf R mc ms Pc) (PostOf Qc mc ms free) (vx_Post XC mc ms free) := by
  intro m meth c A g ig mk a X hg hsize hdg hW hn hp
  have h1 : (headSpec ws rm).pre.before a A.U = true := atoms_intro fun w hw => hws w hw _ _ X.warmed
  have h2 : (Cond.code y bytes maxL ret).before a A.U = true := hws _ hcode _ _ X.warmed
  have h3 : (Cond.initialized y.cls).before a A.U = true := hinit _ _ X.warmed
  have h4 : A.cells + (headSpec ws rm).room.cells ≤ R.cells := by rw [show (headSpec ws rm).room.cells = mc from hrc]; exact hp.1
  have h5 : A.slots + (headSpec ws rm).room.slots ≤ R.slots := by rw [show (headSpec ws rm).room.slots = ms from hrs]; exact hp.2.1
  have hPc : Pc a (A.U.calling g mk a) := hblind _ _ _ _ hp.2.2
  obtain ⟨U, Ls, c0, s0⟩ := A
  dsimp only [Pt.U, Pt.locs, Pt.cells, Pt.slots] at h1 h2 h3 h4 h5 X hn hPc ⊢
  obtain ⟨methY, cY, hmY, hcY, -, hlY, -, -, -, -⟩ := Cond.code_spec hn h2
  obtain ⟨kY, hkY, -⟩ := className_of_methodNamed hn
  have hinitY : kY.init = .initialized := Cond.initialized_spec (findClass_of_methodNamed hn) hkY h3
  have h : At U g.method c below := by rw [hg]; exact X.here
  have hlocals9 : W9 + (maxL + 11) + (headSpec ws rm).room.locals ≤ R.locals := hlocals
  have happ : (headSpec ws rm).appliesLoose y e.platform (U.calling g mk a) = true :=
    Spec.appliesLoose_calling (g := g) h hdg hn hkY hinitY
      (X.room_calling (g := g) (R' := (headSpec ws rm).room) hsize hmY hcY hframes (by rw [hlY]; omega) h4 h5) h1
  obtain ⟨mid, hmid⟩ := h.above
  have hfr : (U.setTop g).frames = (.java g :: mid) ++ below := by rw [State.frames_setTop' g h.top, hmid]; rfl
  obtain ⟨o, s₂, hsteps, -, hend, hq⟩ := Steps.callFree hM p X.admits X.cas X.clock (acts := []) hfr happ hPc trivial
  have hq' : vx_Q Qc XC mc ms free a (U.calling g mk a) o s₂ := hq
  rw [State.frames_setTop' g h.top] at hend
  obtain ⟨g₀, hg0⟩ := Option.isSome_iff_exists.mp h.top
  obtain ⟨r, hr⟩ := State.topJava?_eq_some.mp hg0
  have hr' : (({ U with heap := s₂.heap, slotsUsed := s₂.slotsUsed } : State).setVm s₂.vm).frames = .java g₀ :: r := hr
  rcases hq' with ⟨hqc, L, hfe, hL⟩ | ⟨q, rfl, E, ce, L, hx, hce, hcv, hcl, hW₂, hsm, hL⟩
  · obtain ⟨⟨v, rfl⟩, hW₂, e2, q2, q3, q4, q5, q6⟩ := id hfe
    have e3 : s₂ = ({ (U.calling g mk a).setFrames s₂.frames with heap := s₂.heap, slotsUsed := s₂.slotsUsed } : State).setVm s₂.vm := by
      have : s₂ = ({ s₂ with vm := (U.calling g mk a).vm } : State).setVm s₂.vm := rfl
      rw [e2] at this
      exact this
    obtain ⟨c₂, i₂, len₂, hc₂, hd₂, hf₂⟩ := hend
    have hW' : U.WarmedH s₂.vm := hW₂
    have hcc : c₂ = c := by
      have h1 : s₂.code? g.method = U.code? g.method := by
        rw [State.code?_eq, State.code?_eq, hW'.alike.method?]
      exact Option.some.inj (hc₂.symm.trans (h1.trans h.code))
    subst hcc
    have hlen : len₂ = len := by rw [hdg] at hd₂; cases hd₂; rfl
    subst hlen
    have hs₂ : s₂ = (({ U with heap := s₂.heap, slotsUsed := s₂.slotsUsed } : State).setVm s₂.vm).setTop { g with pc := g.pc + len₂, stack := v.toList ++ g.stack } := by
      refine e3.trans ?_
      rw [hf₂, State.calling_eq h.top, State.setFrames_setFrames, State.setTop_of_frames _ hr', hr]
      rfl
    have hsame : U.sameButNew ({ U with heap := s₂.heap, slotsUsed := s₂.slotsUsed } : State) L mc ms := by
      refine ⟨?_, q2, q3, q4, q5, q6⟩
      obtain ⟨t, ht, -⟩ := State.frames_cons hr
      show ({ U with heap := s₂.heap, slotsUsed := s₂.slotsUsed } : State) = { U.setFrames U.frames with heap := s₂.heap, slotsUsed := s₂.slotsUsed }
      rw [State.setFrames_self ht]
    subst hg
    refine Or.inl ⟨v, ⟨(({ U with heap := s₂.heap, slotsUsed := s₂.slotsUsed } : State).setVm s₂.vm), Ls ++ L, c0 + mc, s0 + ms⟩,
      ⟨X.admits, X.cas, X.clock, X.frames, X.room, X.hears, X.method, X.code, (X.here.setHeapUsed s₂.heap s₂.slotsUsed).setVm hW'.alike, X.tail, State.WarmedH.trans X.warmed hW', X.limits, X.bytes, X.same.trans (hsame.setVm s.vm)⟩,
      ⟨g, mk, s₂, L, rfl, rfl, hqc, rfl, hL, rfl, rfl⟩, ?_⟩
    show Steps p.tables e below _ ((({ U with heap := s₂.heap, slotsUsed := s₂.slotsUsed } : State).setVm s₂.vm).setTop { g with pc := g.pc + len₂, stack := v.toList ++ g.stack })
    rw [← hs₂]
    exact hsteps
  · obtain ⟨e2, q2, q3, q4, q5, q6⟩ := id hsm
    have e3 : s₂ = ({ (U.calling g mk a).setFrames s₂.frames with heap := s₂.heap, slotsUsed := s₂.slotsUsed } : State).setVm s₂.vm := by
      have : s₂ = ({ s₂ with vm := (U.calling g mk a).vm } : State).setVm s₂.vm := rfl
      rw [e2] at this
      exact this
    have hf₂ : s₂.frames = .throwing q :: .java g :: U.frames.tail := hend
    have hW' : U.WarmedH s₂.vm := hW₂
    have hs₂ : s₂ = ((({ U with heap := s₂.heap, slotsUsed := s₂.slotsUsed } : State).setVm s₂.vm).setTop g).pushFrame (.throwing q) := by
      refine e3.trans ?_
      rw [hf₂, State.calling_eq h.top, State.setFrames_setFrames, State.pushFrame, State.frames_setTop _ hr', State.setTop_of_frames _ hr', State.setFrames_setFrames, hr]
      rfl
    have hsame : U.sameButNew ({ U with heap := s₂.heap, slotsUsed := s₂.slotsUsed } : State) L mc ms := by
      refine ⟨?_, q2, q3, q4, q5, q6⟩
      obtain ⟨t, ht, -⟩ := State.frames_cons hr
      show ({ U with heap := s₂.heap, slotsUsed := s₂.slotsUsed } : State) = { U.setFrames U.frames with heap := s₂.heap, slotsUsed := s₂.slotsUsed }
      rw [State.setFrames_self ht]
    subst hg
    refine Or.inr ⟨q, ⟨(({ U with heap := s₂.heap, slotsUsed := s₂.slotsUsed } : State).setVm s₂.vm), Ls ++ L, c0 + mc, s0 + ms⟩,
      ⟨X.admits, X.cas, X.clock, X.frames, X.room, X.hears, X.method, X.code, (X.here.setHeapUsed s₂.heap s₂.slotsUsed).setVm hW'.alike, X.tail, State.WarmedH.trans X.warmed hW', X.limits, X.bytes, X.same.trans (hsame.setVm s.vm)⟩,
      ⟨g, mk, s₂, L, E, ce, rfl, rfl, hx, hce, hcv, hcl, rfl, hL, rfl, rfl⟩, ?_⟩
    show Steps p.tables e below _ (((({ U with heap := s₂.heap, slotsUsed := s₂.slotsUsed } : State).setVm s₂.vm).setTop g).pushFrame (.throwing q))
    rw [← hs₂]
    exact hsteps
end Payer
section Calls
variable {p : Program} {l : Launch} {e : Env} {R : Room} {s : State} {m : MethodId} {args : Array Value} {below : List Frame} {meth : Method} {c : Code} {T : State} {locs : List Loc} {cells slots : Nat}
theorem vx_callV (X : Stand p l e R s m args below meth c T locs cells slots) (hexec : p.tables.exec = Jvm.exec) {own C : String} {index : Nat} {y : MethodName} {bytes : ByteArray} {maxL : Nat} {ret : Option FieldType}
    (hown : s.vm.findClass own = some m.cls) (hlink : (Cond.methodLink own index y).before args s = true) (hinst : (Cond.instanceMethod y).before args s = true) (hsel : (Cond.selects C y y).before args s = true)
    (hcode : (Cond.code y bytes maxL ret).before args s = true) (hy : y.cls ≠ "java/lang/invoke/MethodHandle" ∧ y.cls ≠ "java/lang/invoke/VarHandle")
    {W9 : Nat} {Pre : Pt → Array Value → Prop} {Post : Pt → Array Value → Option Value → Pt → Prop} {PostX : Pt → Array Value → Addr → Pt → Prop} (hK : vx_Back l R p e below s args y 3 W9 Pre Post PostX)
    {b : Addr} {cellB : Cell} (hcell : T.heap[b]? = some cellB) (hobj : cellB.vm.isStatics = false) (hcls : s.vm.findClass C = some cellB.cls)
    {g : JFrame} (hg : g.method = m) (hsize : g.locals.size = c.maxLocals) {argsL rest : List Value} (hlen : ∀ sig, parseMethodDescriptor y.desc = some sig → argsL.length = sig.parameters.length)
    (hstack : g.stack = argsL.reverse ++ .ref b :: rest) (hW : 2 * g.monitorRoom + (rest.map fun v => v.category).sum ≤ W9) (hdg : decode c.code g.pc = .ok (.invokevirtual index, 3))
    (hpre : ∀ vm₁, s.WarmedH vm₁ → Pre ⟨T.setVm vm₁, locs, cells, slots⟩ (Value.ref b :: argsL).toArray) :
    (∃ (v : Option Value) (vm₁ : Vm) (B : Pt), s.WarmedH vm₁ ∧ Stand p l e R s m args below meth c B.U B.locs B.cells B.slots ∧ Post ⟨T.setVm vm₁, locs, cells, slots⟩ (Value.ref b :: argsL).toArray v B ∧
      ∀ target, Steps p.tables e below (B.U.setTop { g with pc := g.pc + 3, stack := v.toList ++ rest }) target → Steps p.tables e below (T.setTop g) target) ∨
    (∃ (q : Addr) (vm₁ : Vm) (B : Pt), s.WarmedH vm₁ ∧ Stand p l e R s m args below meth c B.U B.locs B.cells B.slots ∧ PostX ⟨T.setVm vm₁, locs, cells, slots⟩ (Value.ref b :: argsL).toArray q B ∧
      Steps p.tables e below (T.setTop g) ((B.U.setTop { g with stack := rest }).pushFrame (.throwing q))) := by
  obtain ⟨mk, methM, hnamed, hmethM, hstM, habM⟩ := Cond.instanceMethod_spec hinst
  obtain ⟨methM', cM, hmethM', -, -, -, -, -, -, hsigM⟩ := Cond.code_spec hnamed hcode
  cases hmethM.symm.trans hmethM'
  obtain ⟨c2, r2, m2, q1, q2, q3, q4, kP, hkP, hkPi⟩ := Cond.selects_spec hsel
  cases hcls.symm.trans q1
  cases (State.methodFound?_of_named hnamed hy).symm.trans q2
  cases hnamed.symm.trans q3
  have hselP : selectMethod e.platform s.vm cellB.cls mk = .method mk := by rw [Launch.admits_selectMethod X.admits]; exact q4
  obtain ⟨vm₁, X₁, hstep₁⟩ := X.invokevirtual hexec hown hlink hnamed hmethM hstM hkP hkPi hy (a := b) (cell := cellB) hcell
    (fun z h => by rw [h] at hobj; cases hobj) hselP hmethM habM hkP hkPi (g := g) hg (argsL := argsL) (rest := rest) (hlen _ hsigM) hstack hdg
  rcases hK m meth c ⟨T.setVm vm₁, locs, cells, slots⟩ { g with stack := rest } (.invokevirtual index) mk (Value.ref b :: argsL).toArray X₁ hg hsize hdg hW (X₁.named hnamed) (hpre vm₁ X₁.warmed) with ⟨v, B, X', hpost, hsteps⟩ | ⟨q, B, X', hpost, hsteps⟩
  · exact Or.inl ⟨v, vm₁, B, X₁.warmed, X', hpost, fun target h => hstep₁ _ fun acts => by rw [doInvoke_state]; exact hsteps.trans h⟩
  · exact Or.inr ⟨q, vm₁, B, X₁.warmed, X', hpost, hstep₁ _ fun acts => by rw [doInvoke_state]; exact hsteps⟩
theorem vx_callS (X : Stand p l e R s m args below meth c T locs cells slots) (hexec : p.tables.exec = Jvm.exec) {own : String} {index : Nat} {y : MethodName} {bytes : ByteArray} {maxL : Nat} {ret : Option FieldType}
    (hown : s.vm.findClass own = some m.cls) (hlink : (Cond.methodLink own index y).before args s = true) (hstat : (Cond.static y).before args s = true) (hinit : (Cond.initialized y.cls).before args s = true)
    (hcode : (Cond.code y bytes maxL ret).before args s = true) (hy : y.cls ≠ "java/lang/invoke/MethodHandle" ∧ y.cls ≠ "java/lang/invoke/VarHandle")
    {W9 : Nat} {Pre : Pt → Array Value → Prop} {Post : Pt → Array Value → Option Value → Pt → Prop} {PostX : Pt → Array Value → Addr → Pt → Prop} (hK : vx_Back l R p e below s args y 3 W9 Pre Post PostX)
    {g : JFrame} (hg : g.method = m) (hsize : g.locals.size = c.maxLocals) {argsL rest : List Value} (hlen : ∀ sig, parseMethodDescriptor y.desc = some sig → argsL.length = sig.parameters.length)
    (hstack : g.stack = argsL.reverse ++ rest) (hW : 2 * g.monitorRoom + (rest.map fun v => v.category).sum ≤ W9) (hdg : decode c.code g.pc = .ok (.invokestatic index, 3))
    (hpre : ∀ vm₁, s.WarmedH vm₁ → Pre ⟨T.setVm vm₁, locs, cells, slots⟩ argsL.toArray) :
    (∃ (v : Option Value) (vm₁ : Vm) (B : Pt), s.WarmedH vm₁ ∧ Stand p l e R s m args below meth c B.U B.locs B.cells B.slots ∧ Post ⟨T.setVm vm₁, locs, cells, slots⟩ argsL.toArray v B ∧
      ∀ target, Steps p.tables e below (B.U.setTop { g with pc := g.pc + 3, stack := v.toList ++ rest }) target → Steps p.tables e below (T.setTop g) target) ∨
    (∃ (q : Addr) (vm₁ : Vm) (B : Pt), s.WarmedH vm₁ ∧ Stand p l e R s m args below meth c B.U B.locs B.cells B.slots ∧ PostX ⟨T.setVm vm₁, locs, cells, slots⟩ argsL.toArray q B ∧
      Steps p.tables e below (T.setTop g) ((B.U.setTop { g with stack := rest }).pushFrame (.throwing q))) := by
  obtain ⟨mk, hnamed⟩ := Cond.code_named hcode
  obtain ⟨methM, cM, hmethM, -, -, -, -, -, -, hsigM⟩ := Cond.code_spec hnamed hcode
  have hstatic : methM.isStatic = true := Cond.static_spec hnamed hmethM hstat
  obtain ⟨kP, hkP, -⟩ := className_of_methodNamed hnamed
  have hinitP : kP.init = .initialized := Cond.initialized_spec (findClass_of_methodNamed hnamed) hkP hinit
  obtain ⟨vm₁, X₁, hstep₁⟩ := X.invokestatic hexec hown hlink hnamed hmethM hstatic hkP hinitP hy (g := g) hg (argsL := argsL) (rest := rest) (hlen _ hsigM) hstack hdg
  rcases hK m meth c ⟨T.setVm vm₁, locs, cells, slots⟩ { g with stack := rest } (.invokestatic index) mk argsL.toArray X₁ hg hsize hdg hW (X₁.named hnamed) (hpre vm₁ X₁.warmed) with ⟨v, B, X', hpost, hsteps⟩ | ⟨q, B, X', hpost, hsteps⟩
  · exact Or.inl ⟨v, vm₁, B, X₁.warmed, X', hpost, fun target h => hstep₁ _ fun acts => by rw [doInvoke_state]; exact hsteps.trans h⟩
  · exact Or.inr ⟨q, vm₁, B, X₁.warmed, X', hpost, hstep₁ _ fun acts => by rw [doInvoke_state]; exact hsteps⟩
end Calls
theorem vx_cls {s : State} {T : State} {vm₁ : Vm} {E : String} {k : ClassId} (hW : s.WarmedH vm₁) (h : (T.setVm vm₁).vm.findClass E = some k) : s.vm.findClass E = some k := by
  have h1 : vm₁.findClass E = some k := h
  rw [hW.alike.findClass] at h1
  exact h1
/-- the method's frame g, with q thrown over it -/
def vx_W (p : Program) (l : Launch) (e : Env) (R : Room) (s : State) (m : MethodId) (args : Array Value) (below : List Frame) (meth : Method) (c : Code) (H : Heap) (locs : List Loc) (cells slots : Nat) (Q : State → Prop) (g : JFrame) (q : Addr) : Prop :=
  ∀ T : State, T.heap = H → Stand p l e R s m args below meth c T locs cells slots → ∃ t, Steps p.tables e below ((T.setTop g).pushFrame (.throwing q)) t ∧ Q t
def vx_Run (p : Program) (l : Launch) (e : Env) (R : Room) (s : State) (m : MethodId) (args : Array Value) (below : List Frame) (meth : Method) (c : Code) (H : Heap) (locs : List Loc) (cells slots mc ms : Nat) (g : JFrame) (rest : List Value) (Qa : State → Outcome → State → Prop) (XC : String → State → State → Prop) (free : Addr → Prop) : Prop :=
  ∀ T : State, T.heap = H → Stand p l e R s m args below meth c T locs cells slots →
    (∃ (v : Option Value) (st₀ t T' : State) (L : List Loc), st₀.heap = H ∧ Stand p l e R s m args below meth c T' (locs ++ L) (cells + mc) (slots + ms) ∧ (∀ q ∈ L, free q.base) ∧ T'.heap = t.heap ∧ T'.vm = t.vm ∧ Qa st₀ (.returned v) t ∧
      Goes p e below T g T' { g with pc := g.pc + 3, stack := v.toList ++ rest }) ∨
    (∃ (q : Addr) (st₀ t T' : State) (L : List Loc) (E : String) (ce : Cell), st₀.heap = H ∧ Stand p l e R s m args below meth c T' (locs ++ L) (cells + mc) (slots + ms) ∧ (∀ z ∈ L, free z.base) ∧ T'.heap = t.heap ∧ T'.vm = t.vm ∧ XC E st₀ t ∧ t.heap[q]? = some ce ∧ ce.vm = .none ∧ s.vm.findClass E = some ce.cls ∧
      Steps p.tables e below (T.setTop g) ((T'.setTop { g with stack := rest }).pushFrame (.throwing q)))
def vx_X {S : Type} (px : S → Prop) (B : String → S → State → Prop) (A : Nat → Prop) : String → State → State → Prop := fun E st t => ∃ u : S, px u ∧ B E u t ∧ va_F A st t
section Runs
variable {p : Program} {l : Launch} {e : Env} {R : Room} {s : State} {m : MethodId} {args : Array Value} {below : List Frame} {meth : Method} {c : Code} {H : Heap} {locs : List Loc} {cells slots : Nat}
variable {y : MethodName} {bytes cc : ByteArray} {maxL nL mc ms n index : Nat} {ret : Option FieldType} {ws : List Cond} {rm : Room} {Pc : Array Value → State → Prop} {Qc : Array Value → State → Outcome → State → Prop} {XC : String → State → State → Prop} {free : Addr → Prop} {Ts : List Cond} {own C : String} {b : Addr} {As rest : List Value} {g : JFrame}
theorem vx_callBack (cb : CallB R s args own index y bytes maxL ret ws rm mc ms n) (hM : vx_Met l y ws rm Pc Qc XC mc ms free) (hbl : FrameBlind Pc) : vx_Back l R p e below s args y 3 8 (PreOf R mc ms Pc) (PostOf Qc mc ms free) (vx_Post XC mc ms free) := by
  obtain ⟨hrc, hrs, hfr, hlo, hws, hcw, -, hini, -⟩ := cb
  exact vx_back (bytes := bytes) (maxL := maxL) (ret := ret) hM hbl hrc hrs hfr hlo hws hcw (fun a' U hW => word_at hW (Or.inl (by first | rfl | simp [Cond.onTables, Cond.keeps, Cond.steady])) hini)
theorem vx_runV (S : CallFix p m c cc nL s args Ts own) (hM : vx_Met l y ws rm Pc Qc XC mc ms free) (cw : CallW R s args own C index y bytes maxL ret ws rm mc ms n) (hp : PreV s H C b Pc As)
    (hg : g.method = m) (hn : As.length = n) (hsize : g.locals.size = nL) (hstack : g.stack = As.reverse ++ .ref b :: rest) (hW : 2 * g.monitorRoom + (rest.map fun v => v.category).sum ≤ 8) (hdg : decode cc g.pc = .ok (.invokevirtual index, 3)) (hf : cells + mc ≤ R.cells ∧ slots + ms ≤ R.slots) :
    vx_Run p l e R s m args below meth c H locs cells slots mc ms g rest (Qc (Value.ref b :: As).toArray) XC free := by
  have hK : vx_Back l R p e below s args y 3 8 (PreOf R mc ms Pc) (PostOf Qc mc ms free) (vx_Post XC mc ms free) := vx_callBack cw.1 hM hp.1
  obtain ⟨⟨-, -, -, -, -, -, hcode, -, hy, hlen, hl⟩, hin, hse⟩ := cw
  obtain ⟨hx, hb, hml, ho, -⟩ := S
  obtain ⟨-, ⟨cellB, hcB, hoB, hclB⟩, hPc⟩ := hp
  intro T hT X
  rcases vx_callV X hx (C := C) (bytes := bytes) (maxL := maxL) (ret := ret) ho hl hin hse hcode hy hK (by rw [hT]; exact hcB) hoB hclB hg (hsize.trans hml.symm) (argsL := As) (rest := rest) (fun sig h => hn.trans (hlen sig h)) hstack hW (by rw [hb]; exact hdg)
    (fun vm₁ hW₁ => ⟨hf.1, hf.2, hPc (T.setVm vm₁) hT hW₁⟩) with ⟨v, vm₁, ⟨U', l2, c2, s2⟩, hW₁, X', ⟨g', mk, t, L, e1, e2, hq, h1, hL, h2, h3⟩, st⟩ | ⟨q, vm₁, ⟨U', l2, c2, s2⟩, hW₁, X', ⟨g', mk, t, L, E, ce, e1, e2, hq, hce, hcv, hcl, h1, hL, h2, h3⟩, st⟩
  · dsimp only [Pt.U, Pt.locs, Pt.cells, Pt.slots] at X' e1 e2 h1 h2 h3 st
    subst h1; subst h2; subst h3
    exact Or.inl ⟨v, (T.setVm vm₁).calling g' mk (Value.ref b :: As).toArray, t, U', L, hT, X', hL, e1, e2, hq, st⟩
  · dsimp only [Pt.U, Pt.locs, Pt.cells, Pt.slots] at X' e1 e2 h1 h2 h3 st hcl
    subst h1; subst h2; subst h3
    exact Or.inr ⟨q, (T.setVm vm₁).calling g' mk (Value.ref b :: As).toArray, t, U', L, E, ce, hT, X', hL, e1, e2, hq, hce, hcv, vx_cls hW₁ hcl, st⟩
theorem vx_runS (S : CallFix p m c cc nL s args Ts own) (hM : vx_Met l y ws rm Pc Qc XC mc ms free) (cw : CallB R s args own index y bytes maxL ret ws rm mc ms n ∧ (Cond.static y).before args s = true) (hp : PreS s H Pc As)
    (hg : g.method = m) (hn : As.length = n) (hsize : g.locals.size = nL) (hstack : g.stack = As.reverse ++ rest) (hW : 2 * g.monitorRoom + (rest.map fun v => v.category).sum ≤ 8) (hdg : decode cc g.pc = .ok (.invokestatic index, 3)) (hf : cells + mc ≤ R.cells ∧ slots + ms ≤ R.slots) :
    vx_Run p l e R s m args below meth c H locs cells slots mc ms g rest (Qc As.toArray) XC free := by
  have hK : vx_Back l R p e below s args y 3 8 (PreOf R mc ms Pc) (PostOf Qc mc ms free) (vx_Post XC mc ms free) := vx_callBack cw.1 hM hp.1
  obtain ⟨⟨-, -, -, -, -, -, hcode, hini, hy, hlen, hl⟩, hstt⟩ := cw
  obtain ⟨hx, hb, hml, ho, -⟩ := S
  intro T hT X
  rcases vx_callS X hx (bytes := bytes) (maxL := maxL) (ret := ret) ho hl hstt hini hcode hy hK hg (hsize.trans hml.symm) (argsL := As) (rest := rest) (fun sig h => hn.trans (hlen sig h)) hstack hW (by rw [hb]; exact hdg)
    (fun vm₁ hW₁ => ⟨hf.1, hf.2, hp.2 (T.setVm vm₁) hT hW₁⟩) with ⟨v, vm₁, ⟨U', l2, c2, s2⟩, hW₁, X', ⟨g', mk, t, L, e1, e2, hq, h1, hL, h2, h3⟩, st⟩ | ⟨q, vm₁, ⟨U', l2, c2, s2⟩, hW₁, X', ⟨g', mk, t, L, E, ce, e1, e2, hq, hce, hcv, hcl, h1, hL, h2, h3⟩, st⟩
  · dsimp only [Pt.U, Pt.locs, Pt.cells, Pt.slots] at X' e1 e2 h1 h2 h3 st
    subst h1; subst h2; subst h3
    exact Or.inl ⟨v, (T.setVm vm₁).calling g' mk As.toArray, t, U', L, hT, X', hL, e1, e2, hq, st⟩
  · dsimp only [Pt.U, Pt.locs, Pt.cells, Pt.slots] at X' e1 e2 h1 h2 h3 st hcl
    subst h1; subst h2; subst h3
    exact Or.inr ⟨q, (T.setVm vm₁).calling g' mk As.toArray, t, U', L, E, ce, hT, X', hL, e1, e2, hq, hce, hcv, vx_cls hW₁ hcl, st⟩
end Runs
section Rows
variable {p : Program} {l : Launch} {e : Env} {R : Room} {s : State} {m : MethodId} {args : Array Value} {below : List Frame} {meth : Method} {c : Code} {H : Heap} {locs : List Loc} {cells slots : Nat} {Q : State → Prop}
variable {mc ms : Nat} {free : Addr → Prop} {A0 A1 : Nat → Prop} {H0 : Heap} {a : Array Value} {pc : Nat} {ls : Array Slot} {st0 rest : List Value}
theorem vx_keep {st₀ t T' : State} {L : List Loc} (h0 : st₀.heap = H) (e1 : T'.heap = t.heap) (hS : va_S A0 H0 H locs) (hA : ∀ q, q < H.size → A1 q → A0 q) (hf : ∀ q, free q → A0 q) (hL : ∀ q ∈ L, free q.base) (hF : va_F A1 st₀ t) :
    H.size ≤ T'.heap.size ∧ (∀ q : Nat, q < H.size → ¬ A1 q → T'.heap[q]? = H[q]?) ∧ va_S A0 H0 T'.heap (locs ++ L) := by
  obtain ⟨hz, hk⟩ := hF
  rw [h0] at hz hk
  exact ⟨by rw [e1]; exact hz, fun q h1 h2 => by rw [e1]; exact hk q h1 h2,
    ⟨Nat.le_trans hS.1 (by rw [e1]; exact hz), fun q h1 h2 => by rw [e1, hk q (Nat.lt_of_lt_of_le h1 hS.1) (fun z => h2 (hA q (Nat.lt_of_lt_of_le h1 hS.1) z))]; exact hS.2.1 q h1 h2, fun q hq => by
      rcases List.mem_append.mp hq with h | h
      · exact hS.2.2 q h
      · exact hf _ (hL q h)⟩⟩
theorem vx_calli {S SX : Type} {post : Int32 → S → Prop} {px : SX → Prop} {B : S → State → Prop} {BX : String → SX → State → Prop} {AX : Nat → Prop} (hr : vx_Run p l e R s m args below meth c H locs cells slots mc ms (F0 m pc ls st0) rest (va_Qi post B A1 a) (vx_X px BX AX) free) (hS : va_S A0 H0 H locs) (hA : ∀ q, q < H.size → A1 q → A0 q) (hf : ∀ q, free q → A0 q) (hAX : ∀ q, q < H.size → AX q → A0 q)
    (kx : ∀ (E : String) (ce : Cell) (q9 : Addr) (u : SX) (t : State) (H1 : Heap) (locs1 : List Loc), t.heap = H1 → s.vm.Alike t.vm → px u → BX E u t → H.size ≤ H1.size → (∀ q : Nat, q < H.size → ¬ AX q → H1[q]? = H[q]?) → va_S A0 H0 H1 locs1 → H1[q9]? = some ce → ce.vm = .none → s.vm.findClass E = some ce.cls → vx_W p l e R s m args below meth c H1 locs1 (cells + mc) (slots + ms) Q (F0 m pc ls rest) q9)
    (kk : ∀ (r : Int32) (u : S) (t : State) (H1 : Heap) (locs1 : List Loc), t.heap = H1 → s.vm.Alike t.vm → post r u → B u t → H.size ≤ H1.size → (∀ q : Nat, q < H.size → ¬ A1 q → H1[q]? = H[q]?) → va_S A0 H0 H1 locs1 → W p l e R s m args below meth c H1 locs1 (cells + mc) (slots + ms) Q (F0 m (pc + 3) ls (.int r :: rest))) : W p l e R s m args below meth c H locs cells slots Q (F0 m pc ls st0) := by
  intro T hT X
  rcases hr T hT X with ⟨v, st₀, t, T', L, h0, X', hL, e1, e2, ⟨⟨r, u, hv, hp, hb⟩, hF⟩, st⟩ | ⟨q, st₀, t, T', L, E, ce, h0, X', hL, e1, e2, ⟨u, hp, hb, hF⟩, hce, hcv, hcl, st⟩
  · cases hv
    obtain ⟨k1, k2, k3⟩ := vx_keep h0 e1 hS hA hf hL hF
    obtain ⟨t2, a1, b1⟩ := kk r u t T'.heap (locs ++ L) e1.symm (by rw [← e2]; exact X'.warmed.alike) hp hb k1 k2 k3 T' rfl X'
    exact ⟨t2, st t2 a1, b1⟩
  · obtain ⟨k1, k2, k3⟩ := vx_keep h0 e1 hS hAX hf hL hF
    obtain ⟨t2, a1, b1⟩ := kx E ce q u t T'.heap (locs ++ L) e1.symm (by rw [← e2]; exact X'.warmed.alike) hp hb k1 k2 k3 (by rw [e1]; exact hce) hcv hcl T' rfl X'
    exact ⟨t2, st.trans a1, b1⟩
theorem vx_calll {S SX : Type} {post : Int64 → S → Prop} {px : SX → Prop} {B : S → State → Prop} {BX : String → SX → State → Prop} {AX : Nat → Prop} (hr : vx_Run p l e R s m args below meth c H locs cells slots mc ms (F0 m pc ls st0) rest (va_Ql post B A1 a) (vx_X px BX AX) free) (hS : va_S A0 H0 H locs) (hA : ∀ q, q < H.size → A1 q → A0 q) (hf : ∀ q, free q → A0 q) (hAX : ∀ q, q < H.size → AX q → A0 q)
    (kx : ∀ (E : String) (ce : Cell) (q9 : Addr) (u : SX) (t : State) (H1 : Heap) (locs1 : List Loc), t.heap = H1 → s.vm.Alike t.vm → px u → BX E u t → H.size ≤ H1.size → (∀ q : Nat, q < H.size → ¬ AX q → H1[q]? = H[q]?) → va_S A0 H0 H1 locs1 → H1[q9]? = some ce → ce.vm = .none → s.vm.findClass E = some ce.cls → vx_W p l e R s m args below meth c H1 locs1 (cells + mc) (slots + ms) Q (F0 m pc ls rest) q9)
    (kk : ∀ (r : Int64) (u : S) (t : State) (H1 : Heap) (locs1 : List Loc), t.heap = H1 → s.vm.Alike t.vm → post r u → B u t → H.size ≤ H1.size → (∀ q : Nat, q < H.size → ¬ A1 q → H1[q]? = H[q]?) → va_S A0 H0 H1 locs1 → W p l e R s m args below meth c H1 locs1 (cells + mc) (slots + ms) Q (F0 m (pc + 3) ls (.long r :: rest))) : W p l e R s m args below meth c H locs cells slots Q (F0 m pc ls st0) := by
  intro T hT X
  rcases hr T hT X with ⟨v, st₀, t, T', L, h0, X', hL, e1, e2, ⟨⟨r, u, hv, hp, hb⟩, hF⟩, st⟩ | ⟨q, st₀, t, T', L, E, ce, h0, X', hL, e1, e2, ⟨u, hp, hb, hF⟩, hce, hcv, hcl, st⟩
  · cases hv
    obtain ⟨k1, k2, k3⟩ := vx_keep h0 e1 hS hA hf hL hF
    obtain ⟨t2, a1, b1⟩ := kk r u t T'.heap (locs ++ L) e1.symm (by rw [← e2]; exact X'.warmed.alike) hp hb k1 k2 k3 T' rfl X'
    exact ⟨t2, st t2 a1, b1⟩
  · obtain ⟨k1, k2, k3⟩ := vx_keep h0 e1 hS hAX hf hL hF
    obtain ⟨t2, a1, b1⟩ := kx E ce q u t T'.heap (locs ++ L) e1.symm (by rw [← e2]; exact X'.warmed.alike) hp hb k1 k2 k3 (by rw [e1]; exact hce) hcv hcl T' rfl X'
    exact ⟨t2, st.trans a1, b1⟩
theorem vx_callf {S SX : Type} {post : UInt32 → S → Prop} {px : SX → Prop} {B : S → State → Prop} {BX : String → SX → State → Prop} {AX : Nat → Prop} (hr : vx_Run p l e R s m args below meth c H locs cells slots mc ms (F0 m pc ls st0) rest (va_Qf post B A1 a) (vx_X px BX AX) free) (hS : va_S A0 H0 H locs) (hA : ∀ q, q < H.size → A1 q → A0 q) (hf : ∀ q, free q → A0 q) (hAX : ∀ q, q < H.size → AX q → A0 q)
    (kx : ∀ (E : String) (ce : Cell) (q9 : Addr) (u : SX) (t : State) (H1 : Heap) (locs1 : List Loc), t.heap = H1 → s.vm.Alike t.vm → px u → BX E u t → H.size ≤ H1.size → (∀ q : Nat, q < H.size → ¬ AX q → H1[q]? = H[q]?) → va_S A0 H0 H1 locs1 → H1[q9]? = some ce → ce.vm = .none → s.vm.findClass E = some ce.cls → vx_W p l e R s m args below meth c H1 locs1 (cells + mc) (slots + ms) Q (F0 m pc ls rest) q9)
    (kk : ∀ (r : UInt32) (u : S) (t : State) (H1 : Heap) (locs1 : List Loc), t.heap = H1 → s.vm.Alike t.vm → post r u → B u t → H.size ≤ H1.size → (∀ q : Nat, q < H.size → ¬ A1 q → H1[q]? = H[q]?) → va_S A0 H0 H1 locs1 → W p l e R s m args below meth c H1 locs1 (cells + mc) (slots + ms) Q (F0 m (pc + 3) ls (.float r :: rest))) : W p l e R s m args below meth c H locs cells slots Q (F0 m pc ls st0) := by
  intro T hT X
  rcases hr T hT X with ⟨v, st₀, t, T', L, h0, X', hL, e1, e2, ⟨⟨r, u, hv, hp, hb⟩, hF⟩, st⟩ | ⟨q, st₀, t, T', L, E, ce, h0, X', hL, e1, e2, ⟨u, hp, hb, hF⟩, hce, hcv, hcl, st⟩
  · cases hv
    obtain ⟨k1, k2, k3⟩ := vx_keep h0 e1 hS hA hf hL hF
    obtain ⟨t2, a1, b1⟩ := kk r u t T'.heap (locs ++ L) e1.symm (by rw [← e2]; exact X'.warmed.alike) hp hb k1 k2 k3 T' rfl X'
    exact ⟨t2, st t2 a1, b1⟩
  · obtain ⟨k1, k2, k3⟩ := vx_keep h0 e1 hS hAX hf hL hF
    obtain ⟨t2, a1, b1⟩ := kx E ce q u t T'.heap (locs ++ L) e1.symm (by rw [← e2]; exact X'.warmed.alike) hp hb k1 k2 k3 (by rw [e1]; exact hce) hcv hcl T' rfl X'
    exact ⟨t2, st.trans a1, b1⟩
theorem vx_calld {S SX : Type} {post : UInt64 → S → Prop} {px : SX → Prop} {B : S → State → Prop} {BX : String → SX → State → Prop} {AX : Nat → Prop} (hr : vx_Run p l e R s m args below meth c H locs cells slots mc ms (F0 m pc ls st0) rest (va_Qd post B A1 a) (vx_X px BX AX) free) (hS : va_S A0 H0 H locs) (hA : ∀ q, q < H.size → A1 q → A0 q) (hf : ∀ q, free q → A0 q) (hAX : ∀ q, q < H.size → AX q → A0 q)
    (kx : ∀ (E : String) (ce : Cell) (q9 : Addr) (u : SX) (t : State) (H1 : Heap) (locs1 : List Loc), t.heap = H1 → s.vm.Alike t.vm → px u → BX E u t → H.size ≤ H1.size → (∀ q : Nat, q < H.size → ¬ AX q → H1[q]? = H[q]?) → va_S A0 H0 H1 locs1 → H1[q9]? = some ce → ce.vm = .none → s.vm.findClass E = some ce.cls → vx_W p l e R s m args below meth c H1 locs1 (cells + mc) (slots + ms) Q (F0 m pc ls rest) q9)
    (kk : ∀ (r : UInt64) (u : S) (t : State) (H1 : Heap) (locs1 : List Loc), t.heap = H1 → s.vm.Alike t.vm → post r u → B u t → H.size ≤ H1.size → (∀ q : Nat, q < H.size → ¬ A1 q → H1[q]? = H[q]?) → va_S A0 H0 H1 locs1 → W p l e R s m args below meth c H1 locs1 (cells + mc) (slots + ms) Q (F0 m (pc + 3) ls (.double r :: rest))) : W p l e R s m args below meth c H locs cells slots Q (F0 m pc ls st0) := by
  intro T hT X
  rcases hr T hT X with ⟨v, st₀, t, T', L, h0, X', hL, e1, e2, ⟨⟨r, u, hv, hp, hb⟩, hF⟩, st⟩ | ⟨q, st₀, t, T', L, E, ce, h0, X', hL, e1, e2, ⟨u, hp, hb, hF⟩, hce, hcv, hcl, st⟩
  · cases hv
    obtain ⟨k1, k2, k3⟩ := vx_keep h0 e1 hS hA hf hL hF
    obtain ⟨t2, a1, b1⟩ := kk r u t T'.heap (locs ++ L) e1.symm (by rw [← e2]; exact X'.warmed.alike) hp hb k1 k2 k3 T' rfl X'
    exact ⟨t2, st t2 a1, b1⟩
  · obtain ⟨k1, k2, k3⟩ := vx_keep h0 e1 hS hAX hf hL hF
    obtain ⟨t2, a1, b1⟩ := kx E ce q u t T'.heap (locs ++ L) e1.symm (by rw [← e2]; exact X'.warmed.alike) hp hb k1 k2 k3 (by rw [e1]; exact hce) hcv hcl T' rfl X'
    exact ⟨t2, st.trans a1, b1⟩
theorem vx_callv {S SX : Type} {post : S → Prop} {px : SX → Prop} {B : S → State → Prop} {BX : String → SX → State → Prop} {AX : Nat → Prop} (hr : vx_Run p l e R s m args below meth c H locs cells slots mc ms (F0 m pc ls st0) rest (va_Qv post B A1 a) (vx_X px BX AX) free) (hS : va_S A0 H0 H locs) (hA : ∀ q, q < H.size → A1 q → A0 q) (hf : ∀ q, free q → A0 q) (hAX : ∀ q, q < H.size → AX q → A0 q)
    (kx : ∀ (E : String) (ce : Cell) (q9 : Addr) (u : SX) (t : State) (H1 : Heap) (locs1 : List Loc), t.heap = H1 → s.vm.Alike t.vm → px u → BX E u t → H.size ≤ H1.size → (∀ q : Nat, q < H.size → ¬ AX q → H1[q]? = H[q]?) → va_S A0 H0 H1 locs1 → H1[q9]? = some ce → ce.vm = .none → s.vm.findClass E = some ce.cls → vx_W p l e R s m args below meth c H1 locs1 (cells + mc) (slots + ms) Q (F0 m pc ls rest) q9)
    (kk : ∀ (u : S) (t : State) (H1 : Heap) (locs1 : List Loc), t.heap = H1 → s.vm.Alike t.vm → post u → B u t → H.size ≤ H1.size → (∀ q : Nat, q < H.size → ¬ A1 q → H1[q]? = H[q]?) → va_S A0 H0 H1 locs1 → W p l e R s m args below meth c H1 locs1 (cells + mc) (slots + ms) Q (F0 m (pc + 3) ls (rest))) : W p l e R s m args below meth c H locs cells slots Q (F0 m pc ls st0) := by
  intro T hT X
  rcases hr T hT X with ⟨v, st₀, t, T', L, h0, X', hL, e1, e2, ⟨⟨u, hv, hp, hb⟩, hF⟩, st⟩ | ⟨q, st₀, t, T', L, E, ce, h0, X', hL, e1, e2, ⟨u, hp, hb, hF⟩, hce, hcv, hcl, st⟩
  · cases hv
    obtain ⟨k1, k2, k3⟩ := vx_keep h0 e1 hS hA hf hL hF
    obtain ⟨t2, a1, b1⟩ := kk u t T'.heap (locs ++ L) e1.symm (by rw [← e2]; exact X'.warmed.alike) hp hb k1 k2 k3 T' rfl X'
    exact ⟨t2, st t2 a1, b1⟩
  · obtain ⟨k1, k2, k3⟩ := vx_keep h0 e1 hS hAX hf hL hF
    obtain ⟨t2, a1, b1⟩ := kx E ce q u t T'.heap (locs ++ L) e1.symm (by rw [← e2]; exact X'.warmed.alike) hp hb k1 k2 k3 (by rw [e1]; exact hce) hcv hcl T' rfl X'
    exact ⟨t2, st.trans a1, b1⟩
/-- caught by the row x of this method's table; the rows ahead don't take it -/
theorem vx_catch {own name : String} {E : String} {ce : Cell} {q : Addr} (hown : s.vm.findClass own = some m.cls) (pre : List ExceptionTableEntry) (x : ExceptionTableEntry) (suf : List ExceptionTableEntry) (hsplit : c.exceptionTable.toList = pre ++ x :: suf)
    (hpass : ∀ z ∈ pre, covers z pc = false ∨ (z.catchType ≠ 0 ∧ ∃ nm : String, (Cond.classLink own z.catchType nm).before args s = true ∧ va_Nc E nm s)) (hx : covers x pc = true) (h0 : x.catchType ≠ 0)
    (hlink : (Cond.classLink own x.catchType name).before args s = true) (hcast : (Cond.castable E name).before args s = true) (hcell : H[q]? = some ce) (hv : ce.vm = .none) (hcl : s.vm.findClass E = some ce.cls)
    (kk : W p l e R s m args below meth c H locs cells slots Q (F0 m x.handlerPc ls [.ref q])) : vx_W p l e R s m args below meth c H locs cells slots Q (F0 m pc ls rest) q := by
  intro T hT X
  have hpl : e.platform.magicAccessors = ({} : Platform).magicAccessors := by rw [X.admits.platform]
  obtain ⟨c3, c4, hc3, hc4, hasg⟩ := Cond.castable_spec hcast
  cases Option.some.inj (hc3.symm.trans hcl)
  obtain ⟨c5, hc5, hcl5⟩ := Cond.classLink_spec hown hlink e.platform hpl
  cases Option.some.inj (hc4.symm.trans hc5)
  obtain ⟨vm', X', st⟩ := X.thenCaughtThrough q (g := F0 m pc ls rest) rfl (Steps.refl _) (by rw [hT]; exact hcell) (by rw [hv]; rfl) (by obtain ⟨k9, h9, -⟩ := Vm.findClass_spec hcl; exact ⟨k9, h9⟩) pre x suf hsplit
    (fun z hz => by
      rcases hpass z hz with h | ⟨hz0, nm, hl1, hn1⟩
      · exact Or.inl h
      · obtain ⟨c6, hc6, hcl6⟩ := Cond.classLink_spec hown hl1 e.platform hpl
        obtain ⟨a8, b8, h1, h2, h3⟩ := hn1
        cases Option.some.inj (h1.symm.trans hcl)
        cases Option.some.inj (h2.symm.trans hc6)
        exact Or.inr ⟨hz0, _, hcl6, h3⟩) hx (Or.inr ⟨h0, c4, hcl5, hasg⟩)
  obtain ⟨t, a1, b1⟩ := kk (T.setVm vm') hT X'
  exact ⟨t, st.trans a1, b1⟩
end Rows
section Ends
variable {p : Program} {l : Launch} {e : Env} {R : Room} {s : State} {m : MethodId} {args : Array Value} {below : List Frame} {meth : Method} {c : Code} {H : Heap} {locs : List Loc} {cells slots : Nat} {Q : State → Prop}
variable {mc ms : Nat} {free : Addr → Prop} {A0 A1 : Nat → Prop} {H0 : Heap} {a : Array Value} {ls : Array Slot} {st0 rest : List Value}
variable {Qc : Array Value → State → Outcome → State → Prop} {XC : String → State → State → Prop}
/-- what a body that may throw owes at its end -/
def vx_MQ (below : List Frame) (Qc : Array Value → State → Outcome → State → Prop) (XC : String → State → State → Prop) (a : Array Value) (s : State) (mc ms : Nat) (free : Addr → Prop) : State → Prop := fun t =>
  ∃ o, t.status = .running ∧ Ended t below o ∧ vx_Q Qc XC mc ms free a s o t
theorem vx_ret {g : JFrame} {mc ms : Nat} (k : W p l e R s m args below meth c H locs cells slots (MQ below Qc args s mc ms free) g) : W p l e R s m args below meth c H locs cells slots (vx_MQ below Qc XC args s mc ms free) g := by
  intro T hT X
  obtain ⟨t, a1, o, b1, b2, b3, b4⟩ := k T hT X
  exact ⟨t, a1, o, b1, b2, Or.inl ⟨b3, b4⟩⟩
/-- not caught here: it goes on to the caller -/
theorem vx_widen {g : JFrame} {q : Addr} {k n : Nat} (h1 : cells ≤ k) (h2 : slots ≤ n) (kk : vx_W p l e R s m args below meth c H locs k n Q g q) : vx_W p l e R s m args below meth c H locs cells slots Q g q := fun T hT X => kk T hT (stand_widen X h1 h2)
theorem vx_out {pc : Nat} {E : String} {ce : Cell} {q : Addr} {mc ms : Nat} (hout : ∀ x ∈ c.exceptionTable.toList, covers x pc = false) (hlocks : meth.locks = false) (hcell : H[q]? = some ce) (hv : ce.vm = .none) (hcl : s.vm.findClass E = some ce.cls)
    (hx : ∀ t : State, t.heap = H → s.vm.Alike t.vm → XC E s t) (hf : ∀ z ∈ locs, free z.base) (hc : cells ≤ mc) (hs : slots ≤ ms) :
    vx_W p l e R s m args below meth c H locs cells slots (vx_MQ below Qc XC args s mc ms free) (F0 m pc ls rest) q := by
  intro T hT X
  obtain ⟨st1, hrun, hend, hW, hsm⟩ := X.leaveThrown q (g := F0 m pc ls rest) rfl rfl rfl hout hlocks
  have hcell9 : (T.setFrames (.throwing q :: below)).heap[q]? = some ce := by
    show T.heap[q]? = some ce
    rw [hT]; exact hcell
  exact ⟨_, st1, .threw q, hrun, hend, Or.inr ⟨q, rfl, E, ce, locs, hx _ hT hW.alike, hcell9, hv, hcl, hW, hsm.mono hc hs, hf⟩⟩
theorem vx_frame {U : State} {k n : Nat} (h : s.sameButNew ({ U with vm := s.vm } : State) locs k n) : s.heap.size ≤ U.heap.size ∧ ∀ q : Nat, q < s.heap.size → (∀ z ∈ locs, z.base ≠ q) → U.heap[q]? = s.heap[q]? := by
  obtain ⟨-, h2, -, -, -, h6⟩ := h
  refine ⟨h2, fun q hq hz => ?_⟩
  obtain ⟨c9, e1, e2, e3, e4⟩ := h6 q _ (Array.getElem?_eq_getElem hq)
  have hs : c9.slots = (s.heap[q]).slots := Array.ext_getElem? fun i => e4 i fun hm => hz _ hm rfl
  have h9 : c9 = s.heap[q] := by
    rw [hs] at e2
    exact e2
  have e5 : U.heap[q]? = some c9 := e1
  rw [e5, h9, Array.getElem?_eq_getElem hq]
/-- the words of a throw but the four that speak of the heap -/
def vx_no (w : Cond) : Bool := decide (w ≠ .isRef (.static Bundle.tN "UNASSIGNED_STACK" Bundle.steD)) && decide (w ≠ .isRef (.static Bundle.tN "SUPPRESSED_SENTINEL" Bundle.listD)) && decide (w ≠ .laysStatic Bundle.tN "UNASSIGNED_STACK" Bundle.steD) && decide (w ≠ .laysStatic Bundle.tN "SUPPRESSED_SENTINEL" Bundle.listD)
def vx_at0 (own : String) (ic : Nat) (X : String) (names : List String) : List Cond := (Bundle.ownAtoms0 own ic X names).filter vx_no
def vx_atS (own : String) (ic : Nat) (X : String) (names : List String) : List Cond := (Bundle.ownAtoms own ic X names).filter vx_no
/-- a word that the tables alone decide, or a good one -/
def vx_ot (w : Cond) : Bool := w.onTables || goodWord w
theorem vx_ot_at {args a' : Array Value} {s U : State} {w : Cond} (hW : s.WarmedH U.vm) (hvm : s.vm = U.vm) (hg : vx_ot w = true) (h : w.before args s = true) : w.before a' U = true := by
  simp only [vx_ot, Bool.or_eq_true] at hg
  rcases hg with hg | hg
  · exact va_tabs hg hvm h
  · exact word_at hW (good_of_word hg) h
/-- a list's words: the good ones out of the method's own list, the others by premises of their own -/
theorem vx_hat {args : Array Value} {s : State} {L B : List Cond} (h1 : ∀ w ∈ L.filter goodWord, w.before args s = true) (h2 : ∀ w ∈ L.filter (fun w => !goodWord w), w ∈ B) (h3 : ∀ w ∈ B, w.before args s = true) : ∀ w ∈ L, w.before args s = true := by
  intro w hw
  by_cases g : goodWord w = true
  · exact h1 w (List.mem_filter.mpr ⟨hw, g⟩)
  · refine h3 w (h2 w (List.mem_filter.mpr ⟨hw, ?_⟩))
    show (!goodWord w) = true
    cases hgw : goodWord w
    · rfl
    · exact absurd hgw g
theorem vx_c {args : Array Value} {s : State} {w : Cond} {B : List Cond} (h : w.before args s = true) (t : ∀ w ∈ B, w.before args s = true) : ∀ w' ∈ w :: B, w'.before args s = true := fun w' h' => (List.mem_cons.mp h').elim (fun e => by rw [e]; exact h) (t w')
theorem vx_n {args : Array Value} {s : State} : ∀ w ∈ ([] : List Cond), w.before args s = true := fun _ h => nomatch h
theorem vx_own {args : Array Value} {s : State} {L : List Cond} (h1 : ∀ w ∈ L.filter vx_no, w.before args s = true)
    (hU : (Cond.isRef (.static Bundle.tN "UNASSIGNED_STACK" Bundle.steD)).before args s = true) (hN : (Cond.isRef (.static Bundle.tN "SUPPRESSED_SENTINEL" Bundle.listD)).before args s = true)
    (lU : (Cond.laysStatic Bundle.tN "UNASSIGNED_STACK" Bundle.steD).before args s = true) (lN : (Cond.laysStatic Bundle.tN "SUPPRESSED_SENTINEL" Bundle.listD).before args s = true) : ∀ w ∈ L, w.before args s = true := by
  intro w hw
  by_cases e1 : w = .isRef (.static Bundle.tN "UNASSIGNED_STACK" Bundle.steD)
  · rw [e1]; exact hU
  · by_cases e2 : w = .isRef (.static Bundle.tN "SUPPRESSED_SENTINEL" Bundle.listD)
    · rw [e2]; exact hN
    · by_cases e3 : w = .laysStatic Bundle.tN "UNASSIGNED_STACK" Bundle.steD
      · rw [e3]; exact lU
      · by_cases e4 : w = .laysStatic Bundle.tN "SUPPRESSED_SENTINEL" Bundle.listD
        · rw [e4]; exact lN
        · exact h1 w (List.mem_filter.mpr ⟨hw, by unfold vx_no; rw [decide_eq_true e1, decide_eq_true e2, decide_eq_true e3, decide_eq_true e4]; rfl⟩)
/-- where a static field lies, its class's statics cell in H -/
def vx_L (C n d : String) (A : Nat → Prop) (U : State) (H : Heap) : Prop := ∃ (c : ClassId) (k : Class) (i : Nat) (f : Field) (a : Nat) (cell : Cell), U.vm.findClass C = some c ∧ U.fieldFound? C n d = some (c, k, i, f) ∧ f.isStatic = true ∧ k.statics = some a ∧ H[a]? = some cell ∧ cell.vm.isStatics = true ∧ cell.cls = c ∧ f.slot < cell.slots.size ∧ k.staticTypes[f.slot]? = some f.type ∧ ¬ A a
theorem vx_L.moved {C n d : String} {A : Nat → Prop} {u U : State} {H : Heap} (hvm : u.vm.Alike U.vm) (h : vx_L C n d A u H) : vx_L C n d A U H := by
  obtain ⟨c, k, i, f, a, cell, h1, h2, h3, h4, h5, h6, h7, h8, h9, h10⟩ := h
  obtain ⟨k', hi', he⟩ := State.fieldFound?_setVm hvm h2
  exact ⟨c, k', i, f, a, cell, by rw [hvm.findClass]; exact h1, hi', h3, by rw [he]; exact h4, h5, h6, h7, h8, by rw [he]; exact h9, h10⟩
theorem vx_L.kept {C n d : String} {A : Nat → Prop} {U : State} {H H1 : Heap} (h : vx_L C n d A U H) (hq : ∀ a : Nat, a < H.size → ¬ A a → H1[a]? = H[a]?) : vx_L C n d A U H1 := by
  obtain ⟨c, k, i, f, a, cell, h1, h2, h3, h4, h5, h6, h7, h8, h9, h10⟩ := h
  exact ⟨c, k, i, f, a, cell, h1, h2, h3, h4, by rw [hq a (Array.getElem?_eq_some_iff.mp h5).1 h10]; exact h5, h6, h7, h8, h9, h10⟩
theorem vx_L.narrow {C n d : String} {A B : Nat → Prop} {U : State} {H : Heap} (h : vx_L C n d A U H) (hAB : ∀ q, B q → A q) : vx_L C n d B U H := by
  obtain ⟨c, k, i, f, a, cell, h1, h2, h3, h4, h5, h6, h7, h8, h9, h10⟩ := h
  exact ⟨c, k, i, f, a, cell, h1, h2, h3, h4, h5, h6, h7, h8, h9, fun z => h10 (hAB _ z)⟩
theorem vx_L.word {C n d : String} {A : Nat → Prop} {s : State} {args : Array Value} (h : vx_L C n d A s s.heap) : (Cond.laysStatic C n d).before args s = true := by
  obtain ⟨c, k, i, f, a, cell, h1, h2, h3, h4, h5, h6, h7, h8, h9, -⟩ := h
  show (Cond.laysStatic C n d).holds args s none s [] = true
  exact Cond.laysStatic_of h1 h2 h3 h4 h5 h6 h7 h8 h9
/-- .. and what it holds: null or some reference -/
def vx_Zq (C n d : String) (A : Nat → Prop) (U : State) (H : Heap) : Prop := va_Zq C n d A U H ∧ vx_L C n d A U H
theorem vx_Zq.moved {C n d : String} {A : Nat → Prop} {u U : State} {H : Heap} (hvm : u.vm.Alike U.vm) (h : vx_Zq C n d A u H) : vx_Zq C n d A U H := ⟨va_Zq.moved hvm h.1, vx_L.moved hvm h.2⟩
theorem vx_Zq.kept {C n d : String} {A : Nat → Prop} {U : State} {H H1 : Heap} (h : vx_Zq C n d A U H) (hq : ∀ a : Nat, a < H.size → ¬ A a → H1[a]? = H[a]?) : vx_Zq C n d A U H1 := ⟨va_Zq.kept h.1 hq, vx_L.kept h.2 hq⟩
theorem vx_Zq.narrow {C n d : String} {A B : Nat → Prop} {U : State} {H : Heap} (h : vx_Zq C n d A U H) (hAB : ∀ q, B q → A q) : vx_Zq C n d B U H := ⟨va_Zq.narrow h.1 hAB, vx_L.narrow h.2 hAB⟩
theorem vx_Zqof {args : Array Value} {s : State} {C n d : String} {A : Nat → Prop} (hl : (Cond.laysStatic C n d).before args s = true) (hini : (Cond.initialized C).before args s = true) (h : (Cond.isRef (.static C n d)).before args s = true) (hA : ∀ a : Nat, a < s.heap.size → ¬ A a) : vx_Zq C n d A s s.heap := by
  refine ⟨va_Zqof hl hini h hA, ?_⟩
  obtain ⟨c, k, i, f, a, cell, h1, h2, h3, h4, h5, h6, h7, h8, h9⟩ := Cond.laysStatic_spec hl
  exact ⟨c, k, i, f, a, cell, h1, h2, h3, h4, h5, h6, h7, h8, h9, hA a (Array.getElem?_eq_some_iff.mp h5).1⟩
theorem vx_isRef {C n d : String} {v : Value} {A : Nat → Prop} {s : State} {args : Array Value} (h : va_Z C n d v A s s.heap) (hv : v.isRef = true) : (Cond.isRef (.static C n d)).before args s = true := by
  obtain ⟨cf, kf, fi, f, a, cell, h1, h2, h3, h4, h5, h6, h7, -⟩ := h
  have he : (Term.static C n d).eval args s none [] s = some v := by
    simp [Term.eval, State.fieldNamed?, h1, h2, h4, h5, h6, h7]
  simp only [Cond.before, Cond.holds, Cond.value, he]
  cases v <;> simp_all [Value.isRef]
theorem vx_isRefq {C n d : String} {A : Nat → Prop} {s : State} {args : Array Value} (h : va_Zq C n d A s s.heap) : (Cond.isRef (.static C n d)).before args s = true := by
  rcases h with h | ⟨t, h⟩
  · exact vx_isRef h rfl
  · exact vx_isRef h rfl
/-- the same frame, seen from here: as if the method were called anew in this heap -/
theorem vx_rebase {T : State} (X : Stand p l e R s m args below meth c T locs cells slots) {R' : Room} (hf : R'.frames ≤ R.frames) (hl : R'.locals ≤ R.locals) (hc : cells + R'.cells ≤ R.cells) (hs : slots + R'.slots ≤ R.slots) :
    Stand p l e R' ((T.setVm s.vm).setFrames (.invoking m args :: below)) m args below meth c T [] 0 0 := by
  have htop : (T.setVm s.vm).topJava?.isSome := X.here.top
  have hF : ((T.setVm s.vm).setFrames (.invoking m args :: below)).frames = .invoking m args :: below := State.frames_setFrames _ (State.cur_lt_of_top htop)
  obtain ⟨g₀, hg0⟩ := Option.isSome_iff_exists.mp htop
  obtain ⟨r, hr⟩ := State.topJava?_eq_some.mp hg0
  have hl9 : e.platform.stackLimits (T.setVm s.vm).me = e.platform.stackLimits s.me := X.limits
  have hb9 : (T.setVm s.vm).me.stackBytes = s.me.stackBytes := X.bytes
  refine ⟨X.admits, X.cas, X.clock, hF, ?_, X.hears, X.method, X.code, X.here, X.tail, X.warmed, ?_, ?_, ?_⟩
  · have h := X.room
    have hU : ((T.setVm s.vm).setFrames (.invoking m args :: below)).localsInUse = s.localsInUse := by
      rw [State.localsInUse_invoking hF (meth := meth) (c := c) X.method X.code, State.localsInUse_invoking X.frames X.method X.code]
    simp only [State.hasRoom, Bool.and_eq_true, decide_eq_true_eq] at h ⊢
    obtain ⟨⟨⟨⟨h1, h2, h3, h4, h5, h6⟩, h7⟩, h8⟩, h9⟩ := h
    rw [X.frames, List.length_cons] at h2 h3
    have q1 := X.heapSize
    have q2 := X.used
    simp only [hF, hU, List.length_cons, State.stackLimits_setFrames, State.stackBytes_setFrames, hl9, hb9]
    refine ⟨⟨⟨⟨by omega, by omega, by omega, by omega, by omega, h6⟩, ?_⟩, ?_⟩, X.book⟩
    · show T.heap.size + R'.cells ≤ e.platform.maxCells
      omega
    · show T.slotsUsed + R'.slots ≤ e.platform.maxSlots
      omega
  · rw [State.stackLimits_setFrames]; rfl
  · rw [State.stackBytes_setFrames]; rfl
  · refine ⟨?_, Nat.le_refl _, Nat.le_refl _, ?_, ?_, fun a c9 h9 => ⟨c9, h9, rfl, rfl, fun _ _ => rfl⟩⟩
    · obtain ⟨t, ht, -⟩ := State.frames_cons hr
      show T.setVm s.vm = { ((T.setVm s.vm).setFrames (.invoking m args :: below)).setFrames (T.setVm s.vm).frames with heap := T.heap, slotsUsed := T.slotsUsed }
      rw [State.setFrames_setFrames, State.setFrames_self ht]
      rfl
    · show T.slotsUsed = T.slotsUsed + ((T.heap.toList.drop T.heap.size).map (·.slots.size)).sum
      rw [List.drop_eq_nil_of_le (Nat.le_of_eq Array.length_toList)]
      rfl
    · show ((T.heap.toList.drop T.heap.size).map (·.slots.size)).sum ≤ 0
      rw [List.drop_eq_nil_of_le (Nat.le_of_eq Array.length_toList)]
      exact Nat.le_refl _
/-- 'throw new E()': new; dup; invokespecial; athrow -/
theorem vx_throw0 {cc : ByteArray} {pc : Nat} (hexec : p.tables.exec = Jvm.exec) (hb : c.code = cc) (hl : l.stackTraces = false) {own cls : String} {names : List String} {ik ic mc ms : Nat} {A : Nat → Prop}
    (hown : s.vm.findClass own = some m.cls) (hcls : Bundle.fit cls = true) (hnames : ∀ n ∈ names, Bundle.fit n = true)
    (hk : (Cond.classLink own ik cls).before args s = true) (hini : (Cond.initialized cls).before args s = true) (hat : ∀ w ∈ vx_at0 own ic cls names, w.before args s = true)
    (hgood : ∀ w ∈ Cond.classLink own ik cls :: Cond.initialized cls :: vx_at0 own ic cls names, vx_ot w = true)
    (hU : vx_Zq Bundle.tN "UNASSIGNED_STACK" Bundle.steD A s s.heap) (hN : vx_Zq Bundle.tN "SUPPRESSED_SENTINEL" Bundle.listD A s s.heap) (hS : va_S A s.heap H locs) (hsize : ls.size = c.maxLocals)
    (d0 : decode cc pc = .ok (.new ik, 3)) (d3 : decode cc (pc + 3) = .ok (.dup, 1)) (d4 : decode cc (pc + 4) = .ok (.invokespecial ic, 3)) (d7 : decode cc (pc + 7) = .ok (.athrow, 1))
    (hout : ∀ x ∈ c.exceptionTable.toList, covers x (pc + 7) = false)
    (hRframes : names.length + 3 < R.frames) (hRlocals : (rest.map fun v => v.category).sum + (13 * (names.length + 1) + 42) ≤ R.locals) (hRcells : cells + 1 ≤ R.cells) (hRslots : slots + 6 ≤ R.slots) (hlocks : meth.locks = false)
    (hx : ∀ t : State, s.vm.Alike t.vm → H.size ≤ t.heap.size → (∀ q : Nat, q < H.size → t.heap[q]? = H[q]?) → XC cls s t)
    (hf : ∀ z ∈ locs, free z.base) (hc : cells + 1 ≤ mc) (hs : slots + 6 ≤ ms) :
    W p l e R s m args below meth c H locs cells slots (vx_MQ below Qc XC args s mc ms free) (F0 m pc ls rest) := by
  intro T hT X
  have htr : e.platform.stackTraces = false := (show e.platform.stackTraces = l.stackTraces by rw [X.admits.platform]).trans hl
  have Y := vx_rebase X (R' := { frames := R.frames, locals := R.locals, cells := 1, slots := 6 }) (Nat.le_refl _) (Nat.le_refl _) hRcells hRslots
  obtain ⟨s', hA⟩ : ∃ z, z = (T.setVm s.vm).setFrames (.invoking m args :: below) := ⟨_, rfl⟩
  rw [← hA] at Y
  have hvm : s'.vm = s.vm := by rw [hA]; rfl
  have hhp : s'.heap = H := by rw [hA]; exact hT
  have hW0 : s.WarmedH s'.vm := by rw [hvm]; exact State.WarmedH.refl s
  have hat' : ∀ w ∈ vx_at0 own ic cls names, w.before args s' = true := fun w hw => vx_ot_at hW0 hvm.symm (hgood w (List.mem_cons_of_mem _ (List.mem_cons_of_mem _ hw))) (hat w hw)
  have hk' : (Cond.classLink own ik cls).before args s' = true := vx_ot_at hW0 hvm.symm (hgood _ List.mem_cons_self) hk
  have hini' : (Cond.initialized cls).before args s' = true := vx_ot_at hW0 hvm.symm (hgood _ (List.mem_cons_of_mem _ List.mem_cons_self)) hini
  have hU' : vx_Zq Bundle.tN "UNASSIGNED_STACK" Bundle.steD A s' s'.heap := by rw [hhp]; exact vx_Zq.moved hW0.alike (hU.kept hS.2.1)
  have hN' : vx_Zq Bundle.tN "SUPPRESSED_SENTINEL" Bundle.listD A s' s'.heap := by rw [hhp]; exact vx_Zq.moved hW0.alike (hN.kept hS.2.1)
  have h : ∀ w ∈ Bundle.ownAtoms0 own ic cls names, w.before args s' = true := vx_own hat' (vx_isRefq hU'.1) (vx_isRefq hN'.1) hU'.2.word hN'.2.word
  have hown' : s'.vm.findClass own = some m.cls := by rw [hvm]; exact hown
  have hins : (Cond.instantiable cls 6).before args s' = true := h _ (by simp [Bundle.ownAtoms0])
  obtain ⟨vm₁, cX, kX, hfX, hkX, -, -, X₁, st1⟩ := Y.newCold hexec (own := own) (C := cls) (index := ik) (n := 6) hown' hk' hins hini'
    (g := F0 m pc ls rest) rfl (by rw [hb]; exact d0) (Nat.le_refl _) (Nat.le_refl _)
  generalize hT1 : (T.setVm vm₁).pushCell { cls := cX, slots := kX.instanceTypes.map defaultValue, vm := .none } = T1 at X₁ st1
  have hcat : (Value.ref T.heap.size).category = 1 := rfl
  have hcellA : T1.heap[T.heap.size]? = some (freshCell cX kX) := by rw [← hT1]; exact State.heap_pushCell_size _ _
  have d3' : decode c.code (pc + 3) = .ok (.dup, 1) := by rw [hb]; exact d3
  obtain ⟨U, hsteps, hrun, hend, hW, hsame, ce, hce, hO⟩ := X₁.ctorThrow0 hexec htr (own := own) (cls := cls) (names := names) (ic := ic) hown' hcls hnames h (fun x hx => nomatch hx) hfX hkX hcellA (by rw [hhp, hT]; exact Nat.le_refl _)
    (g := { method := m, pc := pc + 4, locals := ls, stack := .ref T.heap.size :: .ref T.heap.size :: rest, locked := none }) rfl hsize rfl rfl (rest := rest) rfl
    (by rw [hb]; exact d4) (by rw [hb]; exact d7) hout hRframes (by simp only [List.map_cons, List.sum_cons, hcat]; omega) hlocks
  obtain ⟨f1, f2⟩ := vx_frame hsame
  rw [hhp] at f1 f2
  have hWs : s.WarmedH U.vm := State.WarmedH.trans hW0 hW
  have hcl : s.vm.findClass cls = some ce.cls := by
    have h9 := hO.cls
    rw [hvm] at h9
    exact h9
  have hall : s.sameButNew ({ U with vm := s.vm } : State) locs mc ms := by
    subst hA
    obtain ⟨e1, e2⟩ := hsame
    rw [State.setFrames_setFrames] at e1
    have h2 : (T.setVm s.vm).sameButNew ({ U with vm := s.vm } : State) [] (0 + 1) (0 + 6) := ⟨e1, e2⟩
    have h3 := X.same.trans h2
    rw [List.append_nil] at h3
    exact h3.mono hc hs
  refine ⟨U, ?_, .threw T.heap.size, hrun, hend, Or.inr ⟨T.heap.size, rfl, cls, ce, locs, hx U hWs.alike f1 (fun q hq => f2 q hq (fun z hz => nomatch hz)), hce, hO.vm, hcl, hWs, hall, hf⟩⟩
  refine st1 _ ?_
  show Steps p.tables e below (T1.setTop { method := m, pc := pc + 3, locals := ls, stack := .ref T.heap.size :: rest, locked := none }) _
  jvm_step X₁.here [X₁.here.top, hexec, d3', Value.category]
  exact hsteps
/-- 'throw new E("text")': new; dup; ldc; invokespecial; athrow -/
theorem vx_throwS {cc : ByteArray} {pc : Nat} (hexec : p.tables.exec = Jvm.exec) (hb : c.code = cc) (hl : l.stackTraces = false) {own cls text : String} {names : List String} {ik is ic mc ms sa : Nat} {A : Nat → Prop}
    (hown : s.vm.findClass own = some m.cls) (hcls : Bundle.fit cls = true) (hnames : ∀ n ∈ names, Bundle.fit n = true)
    (hk : (Cond.classLink own ik cls).before args s = true) (hini : (Cond.initialized cls).before args s = true) (hstr : vk_R own is text sa s) (hat : ∀ w ∈ vx_atS own ic cls names, w.before args s = true)
    (hgood : ∀ w ∈ Cond.classLink own ik cls :: Cond.initialized cls :: vx_atS own ic cls names, vx_ot w = true)
    (hU : vx_Zq Bundle.tN "UNASSIGNED_STACK" Bundle.steD A s s.heap) (hN : vx_Zq Bundle.tN "SUPPRESSED_SENTINEL" Bundle.listD A s s.heap) (hS : va_S A s.heap H locs) (hsize : ls.size = c.maxLocals)
    (d0 : decode cc pc = .ok (.new ik, 3)) (d3 : decode cc (pc + 3) = .ok (.dup, 1)) (d4 : decode cc (pc + 4) = .ok (.ldc is, 2)) (d6 : decode cc (pc + 6) = .ok (.invokespecial ic, 3)) (d9 : decode cc (pc + 9) = .ok (.athrow, 1))
    (hout : ∀ x ∈ c.exceptionTable.toList, covers x (pc + 9) = false)
    (hRframes : names.length + 3 < R.frames) (hRlocals : (rest.map fun v => v.category).sum + (13 * (names.length + 1) + 43) ≤ R.locals) (hRcells : cells + 1 ≤ R.cells) (hRslots : slots + 6 ≤ R.slots) (hlocks : meth.locks = false)
    (hx : ∀ t : State, s.vm.Alike t.vm → H.size ≤ t.heap.size → (∀ q : Nat, q < H.size → t.heap[q]? = H[q]?) → XC cls s t)
    (hf : ∀ z ∈ locs, free z.base) (hc : cells + 1 ≤ mc) (hs : slots + 6 ≤ ms) :
    W p l e R s m args below meth c H locs cells slots (vx_MQ below Qc XC args s mc ms free) (F0 m pc ls rest) := by
  intro T hT X
  have htr : e.platform.stackTraces = false := (show e.platform.stackTraces = l.stackTraces by rw [X.admits.platform]).trans hl
  have Y := vx_rebase X (R' := { frames := R.frames, locals := R.locals, cells := 1, slots := 6 }) (Nat.le_refl _) (Nat.le_refl _) hRcells hRslots
  obtain ⟨s', hA⟩ : ∃ z, z = (T.setVm s.vm).setFrames (.invoking m args :: below) := ⟨_, rfl⟩
  rw [← hA] at Y
  have hvm : s'.vm = s.vm := by rw [hA]; rfl
  have hhp : s'.heap = H := by rw [hA]; exact hT
  have hW0 : s.WarmedH s'.vm := by rw [hvm]; exact State.WarmedH.refl s
  have hat' : ∀ w ∈ vx_atS own ic cls names, w.before args s' = true := fun w hw => vx_ot_at hW0 hvm.symm (hgood w (List.mem_cons_of_mem _ (List.mem_cons_of_mem _ hw))) (hat w hw)
  have hk' : (Cond.classLink own ik cls).before args s' = true := vx_ot_at hW0 hvm.symm (hgood _ List.mem_cons_self) hk
  have hini' : (Cond.initialized cls).before args s' = true := vx_ot_at hW0 hvm.symm (hgood _ (List.mem_cons_of_mem _ List.mem_cons_self)) hini
  have hU' : vx_Zq Bundle.tN "UNASSIGNED_STACK" Bundle.steD A s' s'.heap := by rw [hhp]; exact vx_Zq.moved hW0.alike (hU.kept hS.2.1)
  have hN' : vx_Zq Bundle.tN "SUPPRESSED_SENTINEL" Bundle.listD A s' s'.heap := by rw [hhp]; exact vx_Zq.moved hW0.alike (hN.kept hS.2.1)
  have h : ∀ w ∈ Bundle.ownAtoms own ic cls names, w.before args s' = true := vx_own hat' (vx_isRefq hU'.1) (vx_isRefq hN'.1) hU'.2.word hN'.2.word
  have hown' : s'.vm.findClass own = some m.cls := by rw [hvm]; exact hown
  have hins : (Cond.instantiable cls 6).before args s' = true := h _ (by simp [Bundle.ownAtoms])
  obtain ⟨vm₁, cX, kX, hfX, hkX, -, -, X₁, st1⟩ := Y.newCold hexec (own := own) (C := cls) (index := ik) (n := 6) hown' hk' hins hini'
    (g := F0 m pc ls rest) rfl (by rw [hb]; exact d0) (Nat.le_refl _) (Nat.le_refl _)
  generalize hT1 : (T.setVm vm₁).pushCell { cls := cX, slots := kX.instanceTypes.map defaultValue, vm := .none } = T1 at X₁ st1
  have hcat : (Value.ref T.heap.size).category = 1 := rfl
  have hcellA : T1.heap[T.heap.size]? = some (freshCell cX kX) := by rw [← hT1]; exact State.heap_pushCell_size _ _
  have d3' : decode c.code (pc + 3) = .ok (.dup, 1) := by rw [hb]; exact d3
  have d4' : decode c.code (pc + 4) = .ok (.ldc is, 2) := by rw [hb]; exact d4
  have hstr' : vk_R own is text sa s' := vk_R.warm hW0 hstr
  obtain ⟨U, hsteps, hrun, hend, hW, hsame, ce, hce, hO⟩ := X₁.ctorThrowS hexec htr (own := own) (cls := cls) (names := names) (ic := ic) hown' hcls hnames h (fun x hx => nomatch hx) hfX hkX hcellA (by rw [hhp, hT]; exact Nat.le_refl _) (msg := .ref sa) rfl
    (g := { method := m, pc := pc + 6, locals := ls, stack := .ref sa :: .ref T.heap.size :: .ref T.heap.size :: rest, locked := none }) rfl hsize rfl rfl (rest := rest) rfl
    (by rw [hb]; exact d6) (by rw [hb]; exact d9) hout hRframes (by simp only [List.map_cons, List.sum_cons, hcat]; omega) hlocks
  obtain ⟨f1, f2⟩ := vx_frame hsame
  rw [hhp] at f1 f2
  have hWs : s.WarmedH U.vm := State.WarmedH.trans hW0 hW
  have hcl : s.vm.findClass cls = some ce.cls := by
    have h9 := hO.cls
    rw [hvm] at h9
    exact h9
  have hall : s.sameButNew ({ U with vm := s.vm } : State) locs mc ms := by
    subst hA
    obtain ⟨e1, e2⟩ := hsame
    rw [State.setFrames_setFrames] at e1
    have h2 : (T.setVm s.vm).sameButNew ({ U with vm := s.vm } : State) [] (0 + 1) (0 + 6) := ⟨e1, e2⟩
    have h3 := X.same.trans h2
    rw [List.append_nil] at h3
    exact h3.mono hc hs
  refine ⟨U, ?_, .threw T.heap.size, hrun, hend, Or.inr ⟨T.heap.size, rfl, cls, ce, locs, hx U hWs.alike f1 (fun q hq => f2 q hq (fun z hz => nomatch hz)), hce, hO.vm, hcl, hWs, hall, hf⟩⟩
  refine st1 _ ?_
  show Steps p.tables e below (T1.setTop { method := m, pc := pc + 3, locals := ls, stack := .ref T.heap.size :: rest, locked := none }) _
  jvm_step X₁.here [X₁.here.top, hexec, d3', Value.category]
  exact X₁.ldcString hexec (own := own) (text := text) (index := is) (a := sa) hown' hstr'.1 hstr'.2
    (g := { method := m, pc := pc + 4, locals := ls, stack := .ref T.heap.size :: .ref T.heap.size :: rest, locked := none }) rfl d4' _ hsteps
/-- 'throw new E("text")', the text by a wide index -/
theorem vx_throwSW {cc : ByteArray} {pc : Nat} (hexec : p.tables.exec = Jvm.exec) (hb : c.code = cc) (hl : l.stackTraces = false) {own cls text : String} {names : List String} {ik is ic mc ms sa : Nat} {A : Nat → Prop}
    (hown : s.vm.findClass own = some m.cls) (hcls : Bundle.fit cls = true) (hnames : ∀ n ∈ names, Bundle.fit n = true)
    (hk : (Cond.classLink own ik cls).before args s = true) (hini : (Cond.initialized cls).before args s = true) (hstr : vk_R own is text sa s) (hat : ∀ w ∈ vx_atS own ic cls names, w.before args s = true)
    (hgood : ∀ w ∈ Cond.classLink own ik cls :: Cond.initialized cls :: vx_atS own ic cls names, vx_ot w = true)
    (hU : vx_Zq Bundle.tN "UNASSIGNED_STACK" Bundle.steD A s s.heap) (hN : vx_Zq Bundle.tN "SUPPRESSED_SENTINEL" Bundle.listD A s s.heap) (hS : va_S A s.heap H locs) (hsize : ls.size = c.maxLocals)
    (d0 : decode cc pc = .ok (.new ik, 3)) (d3 : decode cc (pc + 3) = .ok (.dup, 1)) (d4 : decode cc (pc + 4) = .ok (.ldc_w is, 3)) (d7 : decode cc (pc + 7) = .ok (.invokespecial ic, 3)) (d10 : decode cc (pc + 10) = .ok (.athrow, 1))
    (hout : ∀ x ∈ c.exceptionTable.toList, covers x (pc + 10) = false)
    (hRframes : names.length + 3 < R.frames) (hRlocals : (rest.map fun v => v.category).sum + (13 * (names.length + 1) + 43) ≤ R.locals) (hRcells : cells + 1 ≤ R.cells) (hRslots : slots + 6 ≤ R.slots) (hlocks : meth.locks = false)
    (hx : ∀ t : State, s.vm.Alike t.vm → H.size ≤ t.heap.size → (∀ q : Nat, q < H.size → t.heap[q]? = H[q]?) → XC cls s t)
    (hf : ∀ z ∈ locs, free z.base) (hc : cells + 1 ≤ mc) (hs : slots + 6 ≤ ms) :
    W p l e R s m args below meth c H locs cells slots (vx_MQ below Qc XC args s mc ms free) (F0 m pc ls rest) := by
  intro T hT X
  have htr : e.platform.stackTraces = false := (show e.platform.stackTraces = l.stackTraces by rw [X.admits.platform]).trans hl
  have Y := vx_rebase X (R' := { frames := R.frames, locals := R.locals, cells := 1, slots := 6 }) (Nat.le_refl _) (Nat.le_refl _) hRcells hRslots
  obtain ⟨s', hA⟩ : ∃ z, z = (T.setVm s.vm).setFrames (.invoking m args :: below) := ⟨_, rfl⟩
  rw [← hA] at Y
  have hvm : s'.vm = s.vm := by rw [hA]; rfl
  have hhp : s'.heap = H := by rw [hA]; exact hT
  have hW0 : s.WarmedH s'.vm := by rw [hvm]; exact State.WarmedH.refl s
  have hat' : ∀ w ∈ vx_atS own ic cls names, w.before args s' = true := fun w hw => vx_ot_at hW0 hvm.symm (hgood w (List.mem_cons_of_mem _ (List.mem_cons_of_mem _ hw))) (hat w hw)
  have hk' : (Cond.classLink own ik cls).before args s' = true := vx_ot_at hW0 hvm.symm (hgood _ List.mem_cons_self) hk
  have hini' : (Cond.initialized cls).before args s' = true := vx_ot_at hW0 hvm.symm (hgood _ (List.mem_cons_of_mem _ List.mem_cons_self)) hini
  have hU' : vx_Zq Bundle.tN "UNASSIGNED_STACK" Bundle.steD A s' s'.heap := by rw [hhp]; exact vx_Zq.moved hW0.alike (hU.kept hS.2.1)
  have hN' : vx_Zq Bundle.tN "SUPPRESSED_SENTINEL" Bundle.listD A s' s'.heap := by rw [hhp]; exact vx_Zq.moved hW0.alike (hN.kept hS.2.1)
  have h : ∀ w ∈ Bundle.ownAtoms own ic cls names, w.before args s' = true := vx_own hat' (vx_isRefq hU'.1) (vx_isRefq hN'.1) hU'.2.word hN'.2.word
  have hown' : s'.vm.findClass own = some m.cls := by rw [hvm]; exact hown
  have hins : (Cond.instantiable cls 6).before args s' = true := h _ (by simp [Bundle.ownAtoms])
  obtain ⟨vm₁, cX, kX, hfX, hkX, -, -, X₁, st1⟩ := Y.newCold hexec (own := own) (C := cls) (index := ik) (n := 6) hown' hk' hins hini'
    (g := F0 m pc ls rest) rfl (by rw [hb]; exact d0) (Nat.le_refl _) (Nat.le_refl _)
  generalize hT1 : (T.setVm vm₁).pushCell { cls := cX, slots := kX.instanceTypes.map defaultValue, vm := .none } = T1 at X₁ st1
  have hcat : (Value.ref T.heap.size).category = 1 := rfl
  have hcellA : T1.heap[T.heap.size]? = some (freshCell cX kX) := by rw [← hT1]; exact State.heap_pushCell_size _ _
  have d3' : decode c.code (pc + 3) = .ok (.dup, 1) := by rw [hb]; exact d3
  have d4' : decode c.code (pc + 4) = .ok (.ldc_w is, 3) := by rw [hb]; exact d4
  have hstr' : vk_R own is text sa s' := vk_R.warm hW0 hstr
  obtain ⟨U, hsteps, hrun, hend, hW, hsame, ce, hce, hO⟩ := X₁.ctorThrowS hexec htr (own := own) (cls := cls) (names := names) (ic := ic) hown' hcls hnames h (fun x hx => nomatch hx) hfX hkX hcellA (by rw [hhp, hT]; exact Nat.le_refl _) (msg := .ref sa) rfl
    (g := { method := m, pc := pc + 7, locals := ls, stack := .ref sa :: .ref T.heap.size :: .ref T.heap.size :: rest, locked := none }) rfl hsize rfl rfl (rest := rest) rfl
    (by rw [hb]; exact d7) (by rw [hb]; exact d10) hout hRframes (by simp only [List.map_cons, List.sum_cons, hcat]; omega) hlocks
  obtain ⟨f1, f2⟩ := vx_frame hsame
  rw [hhp] at f1 f2
  have hWs : s.WarmedH U.vm := State.WarmedH.trans hW0 hW
  have hcl : s.vm.findClass cls = some ce.cls := by
    have h9 := hO.cls
    rw [hvm] at h9
    exact h9
  have hall : s.sameButNew ({ U with vm := s.vm } : State) locs mc ms := by
    subst hA
    obtain ⟨e1, e2⟩ := hsame
    rw [State.setFrames_setFrames] at e1
    have h2 : (T.setVm s.vm).sameButNew ({ U with vm := s.vm } : State) [] (0 + 1) (0 + 6) := ⟨e1, e2⟩
    have h3 := X.same.trans h2
    rw [List.append_nil] at h3
    exact h3.mono hc hs
  refine ⟨U, ?_, .threw T.heap.size, hrun, hend, Or.inr ⟨T.heap.size, rfl, cls, ce, locs, hx U hWs.alike f1 (fun q hq => f2 q hq (fun z hz => nomatch hz)), hce, hO.vm, hcl, hWs, hall, hf⟩⟩
  refine st1 _ ?_
  show Steps p.tables e below (T1.setTop { method := m, pc := pc + 3, locals := ls, stack := .ref T.heap.size :: rest, locked := none }) _
  jvm_step X₁.here [X₁.here.top, hexec, d3', Value.category]
  exact X₁.ldcStringW hexec (own := own) (text := text) (index := is) (a := sa) hown' hstr'.1 hstr'.2
    (g := { method := m, pc := pc + 4, locals := ls, stack := .ref T.heap.size :: .ref T.heap.size :: rest, locked := none }) rfl d4' _ hsteps
end Ends
section Bodies
variable {l : Launch}
theorem vx_ofW {y : MethodName} {ws ws' : List Cond} {rm : Room} {Pc : Array Value → State → Prop} {Qc : Array Value → State → Outcome → State → Prop} {XC : String → State → State → Prop} {mc ms : Nat} {free : Addr → Prop} {cc : ByteArray} {maxL : Nat} {ret : Option FieldType}
    (hy : plainName y.cls = true) (hw : ws = Cond.code y cc maxL ret :: ws')
    (body : ∀ p e s m args below meth c s₁, BodyLoose p l y (headSpec ws rm) cc maxL ret e s m args below meth c s₁ → c.maxLocals = maxL → (∀ x ∈ c.exceptionTable.toList, False) → Pc args s →
      W p l e (headSpec ws rm).room s m args below meth c s.heap [] 0 0 (vx_MQ below Qc XC args s mc ms free) (entryFrame m args maxL)) : vx_Met l y ws rm Pc Qc XC mc ms free := by
  refine MetFree.of_bodyS (code := cc) (maxLocals := maxL) (ret := ret) hy ?_ ?_
  · intro args s m h hn
    obtain ⟨meth, c, h1, h2, h3, h4, h5, h6, -, -⟩ := Cond.code_spec hn (atoms_spec (ws := ws) h _ (by rw [hw]; exact List.mem_cons_self))
    exact ⟨meth, c, h1, h2, h3, h4, h5, h6⟩
  · intro p e s m args below meth c s₁ B hml hP _
    have hh0 : s₁.heap = s.heap := by rw [B.state]; rfl
    have ht : ∀ x ∈ c.exceptionTable.toList, False := by
      obtain ⟨meth9, c9, h1, h2, -, -, -, -, h7, -⟩ := Cond.code_spec B.named (atoms_spec (ws := ws) B.pre _ (by rw [hw]; exact List.mem_cons_self))
      cases Option.some.inj (h1.symm.trans B.method)
      cases Option.some.inj (h2.symm.trans (Stand.of_body B).code)
      intro x hx
      rw [Array.isEmpty_iff.mp h7] at hx
      cases hx
    obtain ⟨t, a1, o, b1, b2, b3⟩ := body p e s m args below meth c s₁ B hml ht hP s₁ hh0 (Stand.of_body B)
    exact ⟨t, o, a1, b1, b2, b3⟩
/-- the table of a body with handlers -/
theorem vx_table {p : Program} {x y : MethodName} {S : Spec} {cc bytes : ByteArray} {maxL maxL' : Nat} {ret ret' : Option FieldType} {e : Env} {s s₁ : State} {m : MethodId} {args : Array Value} {below : List Frame} {meth : Method} {c : Code} {hh : List (Nat × Nat × Nat × Nat)}
    (B : BodyLoose p l y S cc maxL ret e s m args below meth c s₁) (h : (Cond.codeWith y bytes maxL' ret' hh).before args s = true) : c.exceptionTable.toList = tableOf hh := by
  obtain ⟨m9, meth9, c9, hn9, h1, h2, -, -, h6, -⟩ := Cond.codeWith_spec h
  cases Option.some.inj (hn9.symm.trans B.named)
  cases Option.some.inj (h1.symm.trans B.method)
  cases Option.some.inj (h2.symm.trans (Stand.of_body B).code)
  rw [← h6, table_eq]
end Bodies
end VXA
/-! ===== END ===== -/
/-! ===== BEGIN a static call of a method with an exception table ===== -/
section VXS
variable {p : Program} {l : Launch} {e : Env} {R : Room} {s : State} {m : MethodId} {args : Array Value} {below : List Frame} {meth : Method} {c : Code} {T : State} {H : Heap} {locs : List Loc} {cells slots : Nat}
abbrev vx_CSW (R : Room) (s : State) (args : Array Value) (own : String) (index : Nat) (y : MethodName) (bytes : ByteArray) (maxL : Nat) (ret : Option FieldType) (hh : List (Nat × Nat × Nat × Nat)) (ws : List Cond) (rm : Room) (mc ms n : Nat) : Prop :=
  (rm.cells = mc ∧ rm.slots = ms ∧ rm.frames + 1 ≤ R.frames ∧ 8 + (maxL + 11) + rm.locals ≤ R.locals ∧ (∀ w ∈ ws, ∀ (a' : Array Value) (U : State), s.WarmedH U.vm → w.before a' U = true) ∧ Cond.codeWith y bytes maxL ret hh ∈ ws) ∧
  (Cond.codeWith y bytes maxL ret hh).before args s = true ∧ (Cond.initialized y.cls).before args s = true ∧ (y.cls ≠ "java/lang/invoke/MethodHandle" ∧ y.cls ≠ "java/lang/invoke/VarHandle") ∧
  (∀ sig, parseMethodDescriptor y.desc = some sig → n = sig.parameters.length) ∧ (Cond.methodLink own index y).before args s = true ∧ (Cond.static y).before args s = true
theorem vx_cwSW {own : String} {index maxL mc ms : Nat} {y : MethodName} {bytes : ByteArray} {ret : Option FieldType} {hh : List (Nat × Nat × Nat × Nat)} {Ts ws ws' : List Cond} {rm : Room} (n : Nat) (ht : ∀ w ∈ Ts, w.before args s = true) (hT : GoodIn Ts (va_wsS own index y ws)) (hw : ws = Cond.codeWith y bytes maxL ret hh :: ws') (hrc : rm.cells = mc) (hrs : rm.slots = ms)
    (hd : y.cls ≠ "java/lang/invoke/MethodHandle" ∧ y.cls ≠ "java/lang/invoke/VarHandle" ∧ (parseMethodDescriptor y.desc).map (fun d => d.parameters.length) = some n) (hR : rm.frames + 1 ≤ R.frames ∧ 8 + (maxL + 11) + rm.locals ≤ R.locals) :
    vx_CSW R s args own index y bytes maxL ret hh ws rm mc ms n := by
  have ok : ∀ w ∈ va_wsS own index y ws, w.before args s = true := fun w h => ht w (hT w h).1
  have hG : GoodIn Ts ws := fun w h => hT w (by unfold va_wsS; exact List.mem_append_right _ h)
  have hc : Cond.codeWith y bytes maxL ret hh ∈ ws := by rw [hw]; exact List.mem_cons_self
  refine ⟨⟨hrc, hrs, hR.1, hR.2, pay_in ht hG, hc⟩, ht _ (hG _ hc).1, ok _ (by simp [va_wsS]), ⟨hd.1, hd.2.1⟩, fun sig h => ?_, ok _ (by simp [va_wsS]), ok _ (by simp [va_wsS])⟩
  have h2 := hd.2.2
  rw [h] at h2
  exact (Option.some.inj h2).symm
theorem vx_callSW (X : Stand p l e R s m args below meth c T locs cells slots) (hexec : p.tables.exec = Jvm.exec) {own : String} {index : Nat} {y : MethodName} {bytes : ByteArray} {maxL : Nat} {ret : Option FieldType} {hh : List (Nat × Nat × Nat × Nat)}
    (hown : s.vm.findClass own = some m.cls) (hlink : (Cond.methodLink own index y).before args s = true) (hstat : (Cond.static y).before args s = true) (hinit : (Cond.initialized y.cls).before args s = true)
    (hcode : (Cond.codeWith y bytes maxL ret hh).before args s = true) (hy : y.cls ≠ "java/lang/invoke/MethodHandle" ∧ y.cls ≠ "java/lang/invoke/VarHandle")
    {W9 : Nat} {Pre : Pt → Array Value → Prop} {Post : Pt → Array Value → Option Value → Pt → Prop} (hK : Back l R p e below s args y 3 W9 Pre Post)
    {g : JFrame} (hg : g.method = m) (hsize : g.locals.size = c.maxLocals) {argsL rest : List Value} (hlen : ∀ sig, parseMethodDescriptor y.desc = some sig → argsL.length = sig.parameters.length)
    (hstack : g.stack = argsL.reverse ++ rest) (hW : 2 * g.monitorRoom + (rest.map fun v => v.category).sum ≤ W9) (hdg : decode c.code g.pc = .ok (.invokestatic index, 3))
    (hpre : ∀ vm₁, s.WarmedH vm₁ → Pre ⟨T.setVm vm₁, locs, cells, slots⟩ argsL.toArray) :
    ∃ (v : Option Value) (vm₁ : Vm) (B : Pt), s.WarmedH vm₁ ∧ Stand p l e R s m args below meth c B.U B.locs B.cells B.slots ∧ Post ⟨T.setVm vm₁, locs, cells, slots⟩ argsL.toArray v B ∧
      ∀ target, Steps p.tables e below (B.U.setTop { g with pc := g.pc + 3, stack := v.toList ++ rest }) target → Steps p.tables e below (T.setTop g) target := by
  obtain ⟨mk, methM, cM, hnamed, hmethM, -, -, -, -, -, -, hsigM⟩ := Cond.codeWith_spec hcode
  have hstatic : methM.isStatic = true := Cond.static_spec hnamed hmethM hstat
  obtain ⟨kP, hkP, -⟩ := className_of_methodNamed hnamed
  have hinitP : kP.init = .initialized := Cond.initialized_spec (findClass_of_methodNamed hnamed) hkP hinit
  obtain ⟨vm₁, X₁, hstep₁⟩ := X.invokestatic hexec hown hlink hnamed hmethM hstatic hkP hinitP hy (g := g) hg (argsL := argsL) (rest := rest) (hlen _ hsigM) hstack hdg
  obtain ⟨v, B, X', hpost, hsteps⟩ := hK m meth c ⟨T.setVm vm₁, locs, cells, slots⟩ { g with stack := rest } (.invokestatic index) mk argsL.toArray X₁ hg hsize hdg hW (X₁.named hnamed) (hpre vm₁ X₁.warmed)
  exact ⟨v, vm₁, B, X₁.warmed, X', hpost, fun target h => hstep₁ _ fun acts => by rw [doInvoke_state]; exact hsteps.trans h⟩
theorem vx_runSW {y : MethodName} {bytes cc : ByteArray} {maxL nL mc ms n index : Nat} {ret : Option FieldType} {hh : List (Nat × Nat × Nat × Nat)} {ws : List Cond} {rm : Room} {Pc : Array Value → State → Prop} {Qc : Array Value → State → Outcome → State → Prop} {free : Addr → Prop} {Ts : List Cond} {own : String} {As rest : List Value} {g : JFrame}
    (S : CallFix p m c cc nL s args Ts own) (hM : Met l y ws rm Pc Qc mc ms free) (cw : vx_CSW R s args own index y bytes maxL ret hh ws rm mc ms n) (hp : PreS s H Pc As)
    (hg : g.method = m) (hn : As.length = n) (hsize : g.locals.size = nL) (hstack : g.stack = As.reverse ++ rest) (hW : 2 * g.monitorRoom + (rest.map fun v => v.category).sum ≤ 8) (hdg : decode cc g.pc = .ok (.invokestatic index, 3)) (hf : cells + mc ≤ R.cells ∧ slots + ms ≤ R.slots) :
    va_Run p l e R s m args below meth c H locs cells slots mc ms g rest (Qc As.toArray) (free) := by
  obtain ⟨⟨hrc, hrs, hfr, hlo, hws, hcw⟩, hcode, hini, hy, hlen, hl, hstt⟩ := cw
  have hK : Back l R p e below s args y 3 8 (PreOf R mc ms Pc) (PostOf Qc mc ms free) := va_backW (hh := hh) (bytes := bytes) (maxL := maxL) (ret := ret) hM hp.1 hrc hrs hfr hlo hws hcw (fun a' U hW => word_at hW (Or.inl (by first | rfl | simp [Cond.onTables, Cond.keeps, Cond.steady])) hini)
  obtain ⟨hx, hb, hml, ho, -⟩ := S
  intro T hT X
  obtain ⟨v, vm₁, ⟨U', l2, c2, s2⟩, hW₁, X', ⟨g', mk, t, L, e1, e2, hq, h1, hL, h2, h3⟩, st⟩ := vx_callSW X hx (hh := hh) (bytes := bytes) (maxL := maxL) (ret := ret) ho hl hstt hini hcode hy hK hg (hsize.trans hml.symm) (argsL := As) (rest := rest) (fun sig h => hn.trans (hlen sig h)) hstack hW (by rw [hb]; exact hdg)
    (fun vm₁ hW₁ => ⟨hf.1, hf.2, hp.2 (T.setVm vm₁) hT hW₁⟩)
  dsimp only [Pt.U, Pt.locs, Pt.cells, Pt.slots] at X' e1 e2 h1 h2 h3 st
  subst h1; subst h2; subst h3
  exact ⟨v, (T.setVm vm₁).calling g' mk As.toArray, t, U', L, hT, X', hL, e1, e2, hq, st⟩
/-- not caught here, past rows that name other classes: it goes on to the caller -/
theorem vx_outP {p : Program} {l : Launch} {e : Env} {R : Room} {s : State} {m : MethodId} {args : Array Value} {below : List Frame} {meth : Method} {c : Code} {H : Heap} {locs : List Loc} {cells slots : Nat} {free : Addr → Prop} {ls : Array Slot} {rest : List Value} {Qc : Array Value → State → Outcome → State → Prop} {XC : String → State → State → Prop}
    {pc : Nat} {own E : String} {ce : Cell} {q : Addr} {mc ms : Nat} (hown : s.vm.findClass own = some m.cls) (hlocks : meth.locks = false)
    (hpass : ∀ z ∈ c.exceptionTable.toList, covers z pc = false ∨ (z.catchType ≠ 0 ∧ ∃ nm : String, (Cond.classLink own z.catchType nm).before args s = true ∧ va_Nc E nm s)) (hcell : H[q]? = some ce) (hv : ce.vm = .none) (hcl : s.vm.findClass E = some ce.cls)
    (hx : ∀ t : State, t.heap = H → s.vm.Alike t.vm → XC E s t) (hf : ∀ z ∈ locs, free z.base) (hc : cells ≤ mc) (hs : slots ≤ ms) :
    vx_W p l e R s m args below meth c H locs cells slots (vx_MQ below Qc XC args s mc ms free) (F0 m pc ls rest) q := by
  intro T hT X
  have hpl : e.platform.magicAccessors = ({} : Platform).magicAccessors := by rw [X.admits.platform]
  obtain ⟨vm', hW', X', st⟩ := X.outThrough hlocks q (g := F0 m pc ls rest) rfl rfl rfl (cell := ce) (by rw [hT]; exact hcell) (by rw [hv]; rfl)
    (by obtain ⟨k9, h9, -⟩ := Vm.findClass_spec hcl; exact ⟨k9, h9⟩) (fun z hz => by
      rcases hpass z hz with h | ⟨hz0, nm, hl1, hn1⟩
      · exact Or.inl h
      · obtain ⟨c6, hc6, hcl6⟩ := Cond.classLink_spec hown hl1 e.platform hpl
        obtain ⟨a8, b8, h1, h2, h3⟩ := hn1
        cases Option.some.inj (h1.symm.trans hcl)
        cases Option.some.inj (h2.symm.trans hc6)
        exact Or.inr ⟨hz0, _, hcl6, h3⟩)
  obtain ⟨g₀, hfr⟩ := X'.frames_eq
  have hcell9 : ((T.setVm vm').setFrames (.throwing q :: below)).heap[q]? = some ce := by
    show T.heap[q]? = some ce
    rw [hT]; exact hcell
  have hend : Ended ((T.setVm vm').setFrames (.throwing q :: below)) below (.threw q) := State.frames_setFrames _ (State.cur_lt_of_frames hfr)
  refine ⟨(T.setVm vm').setFrames (.throwing q :: below), ?_, .threw q, X'.here.running, hend, Or.inr ⟨q, rfl, E, ce, locs, hx _ hT (X'.ends _).1.alike, hcell9, hv, hcl, (X'.ends _).1, (X'.ends _).2.mono hc hs, hf⟩⟩
  rw [X.pushThrowing_eq]
  exact st
/-- a thing of a world lies in the heap -/
theorem vx_lt {D : va_G} {cl : List vw_C} {ws : va_W} {H1 : Heap} (h : va_P D cl ws H1) {k : Nat} {q : Nat × va_E} (hk : ws[k]? = some q) : q.1 < H1.size := (h k q hk).lt
end VXS
/-! ===== END ===== -/
/-! ===== BEGIN methods with a table of their own: called by a name, returning or throwing ===== -/
section VXH
/-! vx_backW, vx_callVX, vx_callSX, vx_callVW, vx_runVW, vx_runVX, vx_runSX, vx_ofWH follow the same proofs as their sisters above (Free/Laws.lean, Shelf42/LK1.lean); vx_outP calls Shelf42/NT130.lean (outThrough). -/
section
variable {l : Launch} {R : Room} {p : Program} {e : Env} {below : List Frame} {s : State} {sargs : Array Value} {y : MethodName} {len W9 : Nat}
theorem vx_backW {ws : List Cond} {rm : Room} {Pc : Array Value → State → Prop} {Qc : Array Value → State → Outcome → State → Prop} {XC : String → State → State → Prop} {mc ms : Nat} {free : Addr → Prop} {bytes : ByteArray} {maxL : Nat} {ret : Option FieldType} {hh : List (Nat × Nat × Nat × Nat)}
    (hM : vx_Met l y ws rm Pc Qc XC mc ms free) (hblind : FrameBlind Pc) (hrc : rm.cells = mc) (hrs : rm.slots = ms)
    (hframes : rm.frames + 1 ≤ R.frames) (hlocals : W9 + (maxL + 11) + rm.locals ≤ R.locals)
    (hws : ∀ w ∈ ws, ∀ a' U, s.WarmedH U.vm → w.before a' U = true) (hcode : Cond.codeWith y bytes maxL ret hh ∈ ws) (hinit : ∀ a' U, s.WarmedH U.vm → (Cond.initialized y.cls).before a' U = true) :
    vx_Back l R p e below s sargs y len W9 (PreOf R mc ms Pc) (PostOf Qc mc ms free) (vx_Post XC mc ms free) := by
  intro m meth c A g ig mk a X hg hsize hdg hW hn hp
  have h1 : (headSpec ws rm).pre.before a A.U = true := atoms_intro fun w hw => hws w hw _ _ X.warmed
  have h2 : (Cond.codeWith y bytes maxL ret hh).before a A.U = true := hws _ hcode _ _ X.warmed
  have h3 : (Cond.initialized y.cls).before a A.U = true := hinit _ _ X.warmed
  have h4 : A.cells + (headSpec ws rm).room.cells ≤ R.cells := by rw [show (headSpec ws rm).room.cells = mc from hrc]; exact hp.1
  have h5 : A.slots + (headSpec ws rm).room.slots ≤ R.slots := by rw [show (headSpec ws rm).room.slots = ms from hrs]; exact hp.2.1
  have hPc : Pc a (A.U.calling g mk a) := hblind _ _ _ _ hp.2.2
  obtain ⟨U, Ls, c0, s0⟩ := A
  dsimp only [Pt.U, Pt.locs, Pt.cells, Pt.slots] at h1 h2 h3 h4 h5 X hn hPc ⊢
  obtain ⟨m9, methY, cY, hn9, hmY, hcY, -, hlY, -⟩ := Cond.codeWith_spec h2
  cases Option.some.inj (hn9.symm.trans hn)
  obtain ⟨kY, hkY, -⟩ := className_of_methodNamed hn
  have hinitY : kY.init = .initialized := Cond.initialized_spec (findClass_of_methodNamed hn) hkY h3
  have h : At U g.method c below := by rw [hg]; exact X.here
  have hlocals9 : W9 + (maxL + 11) + (headSpec ws rm).room.locals ≤ R.locals := hlocals
  have happ : (headSpec ws rm).appliesLoose y e.platform (U.calling g mk a) = true :=
    Spec.appliesLoose_calling (g := g) h hdg hn hkY hinitY
      (X.room_calling (g := g) (R' := (headSpec ws rm).room) hsize hmY hcY hframes (by rw [hlY]; omega) h4 h5) h1
  obtain ⟨mid, hmid⟩ := h.above
  have hfr : (U.setTop g).frames = (.java g :: mid) ++ below := by rw [State.frames_setTop' g h.top, hmid]; rfl
  obtain ⟨o, s₂, hsteps, -, hend, hq⟩ := Steps.callFree hM p X.admits X.cas X.clock (acts := []) hfr happ hPc trivial
  have hq' : vx_Q Qc XC mc ms free a (U.calling g mk a) o s₂ := hq
  rw [State.frames_setTop' g h.top] at hend
  obtain ⟨g₀, hg0⟩ := Option.isSome_iff_exists.mp h.top
  obtain ⟨r, hr⟩ := State.topJava?_eq_some.mp hg0
  have hr' : (({ U with heap := s₂.heap, slotsUsed := s₂.slotsUsed } : State).setVm s₂.vm).frames = .java g₀ :: r := hr
  rcases hq' with ⟨hqc, L, hfe, hL⟩ | ⟨q, rfl, E, ce, L, hx, hce, hcv, hcl, hW₂, hsm, hL⟩
  · obtain ⟨⟨v, rfl⟩, hW₂, e2, q2, q3, q4, q5, q6⟩ := id hfe
    have e3 : s₂ = ({ (U.calling g mk a).setFrames s₂.frames with heap := s₂.heap, slotsUsed := s₂.slotsUsed } : State).setVm s₂.vm := by
      have : s₂ = ({ s₂ with vm := (U.calling g mk a).vm } : State).setVm s₂.vm := rfl
      rw [e2] at this
      exact this
    obtain ⟨c₂, i₂, len₂, hc₂, hd₂, hf₂⟩ := hend
    have hW' : U.WarmedH s₂.vm := hW₂
    have hcc : c₂ = c := by
      have h1 : s₂.code? g.method = U.code? g.method := by
        rw [State.code?_eq, State.code?_eq, hW'.alike.method?]
      exact Option.some.inj (hc₂.symm.trans (h1.trans h.code))
    subst hcc
    have hlen : len₂ = len := by rw [hdg] at hd₂; cases hd₂; rfl
    subst hlen
    have hs₂ : s₂ = (({ U with heap := s₂.heap, slotsUsed := s₂.slotsUsed } : State).setVm s₂.vm).setTop { g with pc := g.pc + len₂, stack := v.toList ++ g.stack } := by
      refine e3.trans ?_
      rw [hf₂, State.calling_eq h.top, State.setFrames_setFrames, State.setTop_of_frames _ hr', hr]
      rfl
    have hsame : U.sameButNew ({ U with heap := s₂.heap, slotsUsed := s₂.slotsUsed } : State) L mc ms := by
      refine ⟨?_, q2, q3, q4, q5, q6⟩
      obtain ⟨t, ht, -⟩ := State.frames_cons hr
      show ({ U with heap := s₂.heap, slotsUsed := s₂.slotsUsed } : State) = { U.setFrames U.frames with heap := s₂.heap, slotsUsed := s₂.slotsUsed }
      rw [State.setFrames_self ht]
    subst hg
    refine Or.inl ⟨v, ⟨(({ U with heap := s₂.heap, slotsUsed := s₂.slotsUsed } : State).setVm s₂.vm), Ls ++ L, c0 + mc, s0 + ms⟩,
      ⟨X.admits, X.cas, X.clock, X.frames, X.room, X.hears, X.method, X.code, (X.here.setHeapUsed s₂.heap s₂.slotsUsed).setVm hW'.alike, X.tail, State.WarmedH.trans X.warmed hW', X.limits, X.bytes, X.same.trans (hsame.setVm s.vm)⟩,
      ⟨g, mk, s₂, L, rfl, rfl, hqc, rfl, hL, rfl, rfl⟩, ?_⟩
    show Steps p.tables e below _ ((({ U with heap := s₂.heap, slotsUsed := s₂.slotsUsed } : State).setVm s₂.vm).setTop { g with pc := g.pc + len₂, stack := v.toList ++ g.stack })
    rw [← hs₂]
    exact hsteps
  · obtain ⟨e2, q2, q3, q4, q5, q6⟩ := id hsm
    have e3 : s₂ = ({ (U.calling g mk a).setFrames s₂.frames with heap := s₂.heap, slotsUsed := s₂.slotsUsed } : State).setVm s₂.vm := by
      have : s₂ = ({ s₂ with vm := (U.calling g mk a).vm } : State).setVm s₂.vm := rfl
      rw [e2] at this
      exact this
    have hf₂ : s₂.frames = .throwing q :: .java g :: U.frames.tail := hend
    have hW' : U.WarmedH s₂.vm := hW₂
    have hs₂ : s₂ = ((({ U with heap := s₂.heap, slotsUsed := s₂.slotsUsed } : State).setVm s₂.vm).setTop g).pushFrame (.throwing q) := by
      refine e3.trans ?_
      rw [hf₂, State.calling_eq h.top, State.setFrames_setFrames, State.pushFrame, State.frames_setTop _ hr', State.setTop_of_frames _ hr', State.setFrames_setFrames, hr]
      rfl
    have hsame : U.sameButNew ({ U with heap := s₂.heap, slotsUsed := s₂.slotsUsed } : State) L mc ms := by
      refine ⟨?_, q2, q3, q4, q5, q6⟩
      obtain ⟨t, ht, -⟩ := State.frames_cons hr
      show ({ U with heap := s₂.heap, slotsUsed := s₂.slotsUsed } : State) = { U.setFrames U.frames with heap := s₂.heap, slotsUsed := s₂.slotsUsed }
      rw [State.setFrames_self ht]
    subst hg
    refine Or.inr ⟨q, ⟨(({ U with heap := s₂.heap, slotsUsed := s₂.slotsUsed } : State).setVm s₂.vm), Ls ++ L, c0 + mc, s0 + ms⟩,
      ⟨X.admits, X.cas, X.clock, X.frames, X.room, X.hears, X.method, X.code, (X.here.setHeapUsed s₂.heap s₂.slotsUsed).setVm hW'.alike, X.tail, State.WarmedH.trans X.warmed hW', X.limits, X.bytes, X.same.trans (hsame.setVm s.vm)⟩,
      ⟨g, mk, s₂, L, E, ce, rfl, rfl, hx, hce, hcv, hcl, rfl, hL, rfl, rfl⟩, ?_⟩
    show Steps p.tables e below _ (((({ U with heap := s₂.heap, slotsUsed := s₂.slotsUsed } : State).setVm s₂.vm).setTop g).pushFrame (.throwing q))
    rw [← hs₂]
    exact hsteps
end
variable {p : Program} {l : Launch} {e : Env} {R : Room} {s : State} {m : MethodId} {args : Array Value} {below : List Frame} {meth : Method} {c : Code} {T : State} {H : Heap} {locs : List Loc} {cells slots : Nat}
theorem vx_callVX (X : Stand p l e R s m args below meth c T locs cells slots) (hexec : p.tables.exec = Jvm.exec) {own C : String} {index : Nat} {y : MethodName} {bytes : ByteArray} {maxL : Nat} {ret : Option FieldType} {hh : List (Nat × Nat × Nat × Nat)}
    (hown : s.vm.findClass own = some m.cls) (hlink : (Cond.methodLink own index y).before args s = true) (hinst : (Cond.instanceMethod y).before args s = true) (hsel : (Cond.selects C y y).before args s = true)
    (hcode : (Cond.codeWith y bytes maxL ret hh).before args s = true) (hy : y.cls ≠ "java/lang/invoke/MethodHandle" ∧ y.cls ≠ "java/lang/invoke/VarHandle")
    {W9 : Nat} {Pre : Pt → Array Value → Prop} {Post : Pt → Array Value → Option Value → Pt → Prop} {PostX : Pt → Array Value → Addr → Pt → Prop} (hK : vx_Back l R p e below s args y 3 W9 Pre Post PostX)
    {b : Addr} {cellB : Cell} (hcell : T.heap[b]? = some cellB) (hobj : cellB.vm.isStatics = false) (hcls : s.vm.findClass C = some cellB.cls)
    {g : JFrame} (hg : g.method = m) (hsize : g.locals.size = c.maxLocals) {argsL rest : List Value} (hlen : ∀ sig, parseMethodDescriptor y.desc = some sig → argsL.length = sig.parameters.length)
    (hstack : g.stack = argsL.reverse ++ .ref b :: rest) (hW : 2 * g.monitorRoom + (rest.map fun v => v.category).sum ≤ W9) (hdg : decode c.code g.pc = .ok (.invokevirtual index, 3))
    (hpre : ∀ vm₁, s.WarmedH vm₁ → Pre ⟨T.setVm vm₁, locs, cells, slots⟩ (Value.ref b :: argsL).toArray) :
    (∃ (v : Option Value) (vm₁ : Vm) (B : Pt), s.WarmedH vm₁ ∧ Stand p l e R s m args below meth c B.U B.locs B.cells B.slots ∧ Post ⟨T.setVm vm₁, locs, cells, slots⟩ (Value.ref b :: argsL).toArray v B ∧
      ∀ target, Steps p.tables e below (B.U.setTop { g with pc := g.pc + 3, stack := v.toList ++ rest }) target → Steps p.tables e below (T.setTop g) target) ∨
    (∃ (q : Addr) (vm₁ : Vm) (B : Pt), s.WarmedH vm₁ ∧ Stand p l e R s m args below meth c B.U B.locs B.cells B.slots ∧ PostX ⟨T.setVm vm₁, locs, cells, slots⟩ (Value.ref b :: argsL).toArray q B ∧
      Steps p.tables e below (T.setTop g) ((B.U.setTop { g with stack := rest }).pushFrame (.throwing q))) := by
  obtain ⟨mk, methM, hnamed, hmethM, hstM, habM⟩ := Cond.instanceMethod_spec hinst
  obtain ⟨m8, methM', cM, hn8, hmethM', -, -, -, -, -, -, hsigM⟩ := Cond.codeWith_spec hcode
  cases Option.some.inj (hn8.symm.trans hnamed)
  cases hmethM.symm.trans hmethM'
  obtain ⟨c2, r2, m2, q1, q2, q3, q4, kP, hkP, hkPi⟩ := Cond.selects_spec hsel
  cases hcls.symm.trans q1
  cases (State.methodFound?_of_named hnamed hy).symm.trans q2
  cases hnamed.symm.trans q3
  have hselP : selectMethod e.platform s.vm cellB.cls mk = .method mk := by rw [Launch.admits_selectMethod X.admits]; exact q4
  obtain ⟨vm₁, X₁, hstep₁⟩ := X.invokevirtual hexec hown hlink hnamed hmethM hstM hkP hkPi hy (a := b) (cell := cellB) hcell
    (fun z h => by rw [h] at hobj; cases hobj) hselP hmethM habM hkP hkPi (g := g) hg (argsL := argsL) (rest := rest) (hlen _ hsigM) hstack hdg
  rcases hK m meth c ⟨T.setVm vm₁, locs, cells, slots⟩ { g with stack := rest } (.invokevirtual index) mk (Value.ref b :: argsL).toArray X₁ hg hsize hdg hW (X₁.named hnamed) (hpre vm₁ X₁.warmed) with ⟨v, B, X', hpost, hsteps⟩ | ⟨q, B, X', hpost, hsteps⟩
  · exact Or.inl ⟨v, vm₁, B, X₁.warmed, X', hpost, fun target h => hstep₁ _ fun acts => by rw [doInvoke_state]; exact hsteps.trans h⟩
  · exact Or.inr ⟨q, vm₁, B, X₁.warmed, X', hpost, hstep₁ _ fun acts => by rw [doInvoke_state]; exact hsteps⟩
theorem vx_callSX (X : Stand p l e R s m args below meth c T locs cells slots) (hexec : p.tables.exec = Jvm.exec) {own : String} {index : Nat} {y : MethodName} {bytes : ByteArray} {maxL : Nat} {ret : Option FieldType} {hh : List (Nat × Nat × Nat × Nat)}
    (hown : s.vm.findClass own = some m.cls) (hlink : (Cond.methodLink own index y).before args s = true) (hstat : (Cond.static y).before args s = true) (hinit : (Cond.initialized y.cls).before args s = true)
    (hcode : (Cond.codeWith y bytes maxL ret hh).before args s = true) (hy : y.cls ≠ "java/lang/invoke/MethodHandle" ∧ y.cls ≠ "java/lang/invoke/VarHandle")
    {W9 : Nat} {Pre : Pt → Array Value → Prop} {Post : Pt → Array Value → Option Value → Pt → Prop} {PostX : Pt → Array Value → Addr → Pt → Prop} (hK : vx_Back l R p e below s args y 3 W9 Pre Post PostX)
    {g : JFrame} (hg : g.method = m) (hsize : g.locals.size = c.maxLocals) {argsL rest : List Value} (hlen : ∀ sig, parseMethodDescriptor y.desc = some sig → argsL.length = sig.parameters.length)
    (hstack : g.stack = argsL.reverse ++ rest) (hW : 2 * g.monitorRoom + (rest.map fun v => v.category).sum ≤ W9) (hdg : decode c.code g.pc = .ok (.invokestatic index, 3))
    (hpre : ∀ vm₁, s.WarmedH vm₁ → Pre ⟨T.setVm vm₁, locs, cells, slots⟩ argsL.toArray) :
    (∃ (v : Option Value) (vm₁ : Vm) (B : Pt), s.WarmedH vm₁ ∧ Stand p l e R s m args below meth c B.U B.locs B.cells B.slots ∧ Post ⟨T.setVm vm₁, locs, cells, slots⟩ argsL.toArray v B ∧
      ∀ target, Steps p.tables e below (B.U.setTop { g with pc := g.pc + 3, stack := v.toList ++ rest }) target → Steps p.tables e below (T.setTop g) target) ∨
    (∃ (q : Addr) (vm₁ : Vm) (B : Pt), s.WarmedH vm₁ ∧ Stand p l e R s m args below meth c B.U B.locs B.cells B.slots ∧ PostX ⟨T.setVm vm₁, locs, cells, slots⟩ argsL.toArray q B ∧
      Steps p.tables e below (T.setTop g) ((B.U.setTop { g with stack := rest }).pushFrame (.throwing q))) := by
  obtain ⟨mk, methM, cM, hnamed, hmethM, -, -, -, -, -, -, hsigM⟩ := Cond.codeWith_spec hcode
  have hstatic : methM.isStatic = true := Cond.static_spec hnamed hmethM hstat
  obtain ⟨kP, hkP, -⟩ := className_of_methodNamed hnamed
  have hinitP : kP.init = .initialized := Cond.initialized_spec (findClass_of_methodNamed hnamed) hkP hinit
  obtain ⟨vm₁, X₁, hstep₁⟩ := X.invokestatic hexec hown hlink hnamed hmethM hstatic hkP hinitP hy (g := g) hg (argsL := argsL) (rest := rest) (hlen _ hsigM) hstack hdg
  rcases hK m meth c ⟨T.setVm vm₁, locs, cells, slots⟩ { g with stack := rest } (.invokestatic index) mk argsL.toArray X₁ hg hsize hdg hW (X₁.named hnamed) (hpre vm₁ X₁.warmed) with ⟨v, B, X', hpost, hsteps⟩ | ⟨q, B, X', hpost, hsteps⟩
  · exact Or.inl ⟨v, vm₁, B, X₁.warmed, X', hpost, fun target h => hstep₁ _ fun acts => by rw [doInvoke_state]; exact hsteps.trans h⟩
  · exact Or.inr ⟨q, vm₁, B, X₁.warmed, X', hpost, hstep₁ _ fun acts => by rw [doInvoke_state]; exact hsteps⟩
theorem vx_callVW (X : Stand p l e R s m args below meth c T locs cells slots) (hexec : p.tables.exec = Jvm.exec) {own C : String} {index : Nat} {y : MethodName} {bytes : ByteArray} {maxL : Nat} {ret : Option FieldType} {hh : List (Nat × Nat × Nat × Nat)}
    (hown : s.vm.findClass own = some m.cls) (hlink : (Cond.methodLink own index y).before args s = true) (hinst : (Cond.instanceMethod y).before args s = true) (hsel : (Cond.selects C y y).before args s = true)
    (hcode : (Cond.codeWith y bytes maxL ret hh).before args s = true) (hy : y.cls ≠ "java/lang/invoke/MethodHandle" ∧ y.cls ≠ "java/lang/invoke/VarHandle")
    {W9 : Nat} {Pre : Pt → Array Value → Prop} {Post : Pt → Array Value → Option Value → Pt → Prop} (hK : Back l R p e below s args y 3 W9 Pre Post)
    {b : Addr} {cellB : Cell} (hcell : T.heap[b]? = some cellB) (hobj : cellB.vm.isStatics = false) (hcls : s.vm.findClass C = some cellB.cls)
    {g : JFrame} (hg : g.method = m) (hsize : g.locals.size = c.maxLocals) {argsL rest : List Value} (hlen : ∀ sig, parseMethodDescriptor y.desc = some sig → argsL.length = sig.parameters.length)
    (hstack : g.stack = argsL.reverse ++ .ref b :: rest) (hW : 2 * g.monitorRoom + (rest.map fun v => v.category).sum ≤ W9) (hdg : decode c.code g.pc = .ok (.invokevirtual index, 3))
    (hpre : ∀ vm₁, s.WarmedH vm₁ → Pre ⟨T.setVm vm₁, locs, cells, slots⟩ (Value.ref b :: argsL).toArray) :
    ∃ (v : Option Value) (vm₁ : Vm) (B : Pt), s.WarmedH vm₁ ∧ Stand p l e R s m args below meth c B.U B.locs B.cells B.slots ∧ Post ⟨T.setVm vm₁, locs, cells, slots⟩ (Value.ref b :: argsL).toArray v B ∧
      ∀ target, Steps p.tables e below (B.U.setTop { g with pc := g.pc + 3, stack := v.toList ++ rest }) target → Steps p.tables e below (T.setTop g) target := by
  obtain ⟨mk, methM, hnamed, hmethM, hstM, habM⟩ := Cond.instanceMethod_spec hinst
  obtain ⟨m8, methM', cM, hn8, hmethM', -, -, -, -, -, -, hsigM⟩ := Cond.codeWith_spec hcode
  cases Option.some.inj (hn8.symm.trans hnamed)
  cases hmethM.symm.trans hmethM'
  obtain ⟨c2, r2, m2, q1, q2, q3, q4, kP, hkP, hkPi⟩ := Cond.selects_spec hsel
  cases hcls.symm.trans q1
  cases (State.methodFound?_of_named hnamed hy).symm.trans q2
  cases hnamed.symm.trans q3
  have hselP : selectMethod e.platform s.vm cellB.cls mk = .method mk := by rw [Launch.admits_selectMethod X.admits]; exact q4
  obtain ⟨vm₁, X₁, hstep₁⟩ := X.invokevirtual hexec hown hlink hnamed hmethM hstM hkP hkPi hy (a := b) (cell := cellB) hcell
    (fun z h => by rw [h] at hobj; cases hobj) hselP hmethM habM hkP hkPi (g := g) hg (argsL := argsL) (rest := rest) (hlen _ hsigM) hstack hdg
  obtain ⟨v, B, X', hpost, hsteps⟩ := hK m meth c ⟨T.setVm vm₁, locs, cells, slots⟩ { g with stack := rest } (.invokevirtual index) mk (Value.ref b :: argsL).toArray X₁ hg hsize hdg hW (X₁.named hnamed) (hpre vm₁ X₁.warmed)
  exact ⟨v, vm₁, B, X₁.warmed, X', hpost, fun target h => hstep₁ _ fun acts => by rw [doInvoke_state]; exact hsteps.trans h⟩
abbrev vx_CVW (R : Room) (s : State) (args : Array Value) (own C : String) (index : Nat) (y : MethodName) (bytes : ByteArray) (maxL : Nat) (ret : Option FieldType) (hh : List (Nat × Nat × Nat × Nat)) (ws : List Cond) (rm : Room) (mc ms n : Nat) : Prop :=
  (rm.cells = mc ∧ rm.slots = ms ∧ rm.frames + 1 ≤ R.frames ∧ 8 + (maxL + 11) + rm.locals ≤ R.locals ∧ (∀ w ∈ ws, ∀ (a' : Array Value) (U : State), s.WarmedH U.vm → w.before a' U = true) ∧ Cond.codeWith y bytes maxL ret hh ∈ ws) ∧
  (Cond.codeWith y bytes maxL ret hh).before args s = true ∧ (Cond.initialized y.cls).before args s = true ∧ (y.cls ≠ "java/lang/invoke/MethodHandle" ∧ y.cls ≠ "java/lang/invoke/VarHandle") ∧
  (∀ sig, parseMethodDescriptor y.desc = some sig → n = sig.parameters.length) ∧ (Cond.methodLink own index y).before args s = true ∧ (Cond.instanceMethod y).before args s = true ∧ (Cond.selects C y y).before args s = true
theorem vx_cwVW {own C : String} {index maxL mc ms : Nat} {y : MethodName} {bytes : ByteArray} {ret : Option FieldType} {hh : List (Nat × Nat × Nat × Nat)} {Ts ws ws' : List Cond} {rm : Room} (n : Nat) (ht : ∀ w ∈ Ts, w.before args s = true) (hT : GoodIn Ts (wsV own index C y ws)) (hw : ws = Cond.codeWith y bytes maxL ret hh :: ws') (hrc : rm.cells = mc) (hrs : rm.slots = ms)
    (hd : y.cls = C ∧ y.cls ≠ "java/lang/invoke/MethodHandle" ∧ y.cls ≠ "java/lang/invoke/VarHandle" ∧ (parseMethodDescriptor y.desc).map (fun d => d.parameters.length) = some n) (hR : rm.frames + 1 ≤ R.frames ∧ 8 + (maxL + 11) + rm.locals ≤ R.locals) :
    vx_CVW R s args own C index y bytes maxL ret hh ws rm mc ms n := by
  obtain ⟨hC, hd⟩ := hd
  subst hC
  have ok : ∀ w ∈ wsV own index y.cls y ws, w.before args s = true := fun w h => ht w (hT w h).1
  have hG : GoodIn Ts ws := fun w h => hT w (by unfold wsV; exact List.mem_append_right _ h)
  have hc : Cond.codeWith y bytes maxL ret hh ∈ ws := by rw [hw]; exact List.mem_cons_self
  refine ⟨⟨hrc, hrs, hR.1, hR.2, pay_in ht hG, hc⟩, ht _ (hG _ hc).1, ok _ (by simp [wsV]), ⟨hd.1, hd.2.1⟩, fun sig h => ?_, ok _ (by simp [wsV]), ok _ (by simp [wsV]), ok _ (by simp [wsV])⟩
  have h2 := hd.2.2
  rw [h] at h2
  exact (Option.some.inj h2).symm
theorem vx_runVW {y : MethodName} {bytes cc : ByteArray} {maxL nL mc ms n index : Nat} {ret : Option FieldType} {hh : List (Nat × Nat × Nat × Nat)} {ws : List Cond} {rm : Room} {Pc : Array Value → State → Prop} {Qc : Array Value → State → Outcome → State → Prop} {free : Addr → Prop} {Ts : List Cond} {own C : String} {b : Addr} {As rest : List Value} {g : JFrame}
    (S : CallFix p m c cc nL s args Ts own) (hM : Met l y ws rm Pc Qc mc ms free) (cw : vx_CVW R s args own C index y bytes maxL ret hh ws rm mc ms n) (hp : PreV s H C b Pc As)
    (hg : g.method = m) (hn : As.length = n) (hsize : g.locals.size = nL) (hstack : g.stack = As.reverse ++ .ref b :: rest) (hW : 2 * g.monitorRoom + (rest.map fun v => v.category).sum ≤ 8) (hdg : decode cc g.pc = .ok (.invokevirtual index, 3)) (hf : cells + mc ≤ R.cells ∧ slots + ms ≤ R.slots) :
    va_Run p l e R s m args below meth c H locs cells slots mc ms g rest (Qc (Value.ref b :: As).toArray) free := by
  obtain ⟨⟨hrc, hrs, hfr, hlo, hws, hcw⟩, hcode, hini, hy, hlen, hl, hin, hse⟩ := cw
  have hK : Back l R p e below s args y 3 8 (PreOf R mc ms Pc) (PostOf Qc mc ms free) := va_backW (hh := hh) (bytes := bytes) (maxL := maxL) (ret := ret) hM hp.1 hrc hrs hfr hlo hws hcw (fun a' U hW => word_at hW (Or.inl (by first | rfl | simp [Cond.onTables, Cond.keeps, Cond.steady])) hini)
  obtain ⟨hx, hb, hml, ho, -⟩ := S
  obtain ⟨-, ⟨cellB, hcB, hoB, hclB⟩, hPc⟩ := hp
  intro T hT X
  obtain ⟨v, vm₁, ⟨U', l2, c2, s2⟩, hW₁, X', ⟨g', mk, t, L, e1, e2, hq, h1, hL, h2, h3⟩, st⟩ := vx_callVW X hx (C := C) (hh := hh) (bytes := bytes) (maxL := maxL) (ret := ret) ho hl hin hse hcode hy hK (by rw [hT]; exact hcB) hoB hclB hg (hsize.trans hml.symm) (argsL := As) (rest := rest) (fun sig h => hn.trans (hlen sig h)) hstack hW (by rw [hb]; exact hdg)
    (fun vm₁ hW₁ => ⟨hf.1, hf.2, hPc (T.setVm vm₁) hT hW₁⟩)
  dsimp only [Pt.U, Pt.locs, Pt.cells, Pt.slots] at X' e1 e2 h1 h2 h3 st
  subst h1; subst h2; subst h3
  exact ⟨v, (T.setVm vm₁).calling g' mk (Value.ref b :: As).toArray, t, U', L, hT, X', hL, e1, e2, hq, st⟩
section
variable {y : MethodName} {bytes cc : ByteArray} {maxL nL mc ms n index : Nat} {ret : Option FieldType} {ws : List Cond} {rm : Room} {Pc : Array Value → State → Prop} {Qc : Array Value → State → Outcome → State → Prop} {XC : String → State → State → Prop} {free : Addr → Prop} {Ts : List Cond} {own C : String} {b : Addr} {As rest : List Value} {g : JFrame}
theorem vx_runVX {hh : List (Nat × Nat × Nat × Nat)} (S : CallFix p m c cc nL s args Ts own) (hM : vx_Met l y ws rm Pc Qc XC mc ms free) (cw : vx_CVW R s args own C index y bytes maxL ret hh ws rm mc ms n) (hp : PreV s H C b Pc As)
    (hg : g.method = m) (hn : As.length = n) (hsize : g.locals.size = nL) (hstack : g.stack = As.reverse ++ .ref b :: rest) (hW : 2 * g.monitorRoom + (rest.map fun v => v.category).sum ≤ 8) (hdg : decode cc g.pc = .ok (.invokevirtual index, 3)) (hf : cells + mc ≤ R.cells ∧ slots + ms ≤ R.slots) :
    vx_Run p l e R s m args below meth c H locs cells slots mc ms g rest (Qc (Value.ref b :: As).toArray) XC free := by
  obtain ⟨⟨hrc, hrs, hfr, hlo, hws, hcw⟩, hcode, hini, hy, hlen, hl, hin, hse⟩ := cw
  have hK : vx_Back l R p e below s args y 3 8 (PreOf R mc ms Pc) (PostOf Qc mc ms free) (vx_Post XC mc ms free) := vx_backW (hh := hh) (bytes := bytes) (maxL := maxL) (ret := ret) hM hp.1 hrc hrs hfr hlo hws hcw (fun a' U hW => word_at hW (Or.inl (by first | rfl | simp [Cond.onTables, Cond.keeps, Cond.steady])) hini)
  obtain ⟨hx, hb, hml, ho, -⟩ := S
  obtain ⟨-, ⟨cellB, hcB, hoB, hclB⟩, hPc⟩ := hp
  intro T hT X
  rcases vx_callVX X hx (C := C) (hh := hh) (bytes := bytes) (maxL := maxL) (ret := ret) ho hl hin hse hcode hy hK (by rw [hT]; exact hcB) hoB hclB hg (hsize.trans hml.symm) (argsL := As) (rest := rest) (fun sig h => hn.trans (hlen sig h)) hstack hW (by rw [hb]; exact hdg)
    (fun vm₁ hW₁ => ⟨hf.1, hf.2, hPc (T.setVm vm₁) hT hW₁⟩) with ⟨v, vm₁, ⟨U', l2, c2, s2⟩, hW₁, X', ⟨g', mk, t, L, e1, e2, hq, h1, hL, h2, h3⟩, st⟩ | ⟨q, vm₁, ⟨U', l2, c2, s2⟩, hW₁, X', ⟨g', mk, t, L, E, ce, e1, e2, hq, hce, hcv, hcl, h1, hL, h2, h3⟩, st⟩
  · dsimp only [Pt.U, Pt.locs, Pt.cells, Pt.slots] at X' e1 e2 h1 h2 h3 st
    subst h1; subst h2; subst h3
    exact Or.inl ⟨v, (T.setVm vm₁).calling g' mk (Value.ref b :: As).toArray, t, U', L, hT, X', hL, e1, e2, hq, st⟩
  · dsimp only [Pt.U, Pt.locs, Pt.cells, Pt.slots] at X' e1 e2 h1 h2 h3 st hcl
    subst h1; subst h2; subst h3
    exact Or.inr ⟨q, (T.setVm vm₁).calling g' mk (Value.ref b :: As).toArray, t, U', L, E, ce, hT, X', hL, e1, e2, hq, hce, hcv, vx_cls hW₁ hcl, st⟩
theorem vx_runSX {hh : List (Nat × Nat × Nat × Nat)} (S : CallFix p m c cc nL s args Ts own) (hM : vx_Met l y ws rm Pc Qc XC mc ms free) (cw : vx_CSW R s args own index y bytes maxL ret hh ws rm mc ms n) (hp : PreS s H Pc As)
    (hg : g.method = m) (hn : As.length = n) (hsize : g.locals.size = nL) (hstack : g.stack = As.reverse ++ rest) (hW : 2 * g.monitorRoom + (rest.map fun v => v.category).sum ≤ 8) (hdg : decode cc g.pc = .ok (.invokestatic index, 3)) (hf : cells + mc ≤ R.cells ∧ slots + ms ≤ R.slots) :
    vx_Run p l e R s m args below meth c H locs cells slots mc ms g rest (Qc As.toArray) XC free := by
  obtain ⟨⟨hrc, hrs, hfr, hlo, hws, hcw⟩, hcode, hini, hy, hlen, hl, hstt⟩ := cw
  have hK : vx_Back l R p e below s args y 3 8 (PreOf R mc ms Pc) (PostOf Qc mc ms free) (vx_Post XC mc ms free) := vx_backW (hh := hh) (bytes := bytes) (maxL := maxL) (ret := ret) hM hp.1 hrc hrs hfr hlo hws hcw (fun a' U hW => word_at hW (Or.inl (by first | rfl | simp [Cond.onTables, Cond.keeps, Cond.steady])) hini)
  obtain ⟨hx, hb, hml, ho, -⟩ := S
  intro T hT X
  rcases vx_callSX X hx (hh := hh) (bytes := bytes) (maxL := maxL) (ret := ret) ho hl hstt hini hcode hy hK hg (hsize.trans hml.symm) (argsL := As) (rest := rest) (fun sig h => hn.trans (hlen sig h)) hstack hW (by rw [hb]; exact hdg)
    (fun vm₁ hW₁ => ⟨hf.1, hf.2, hp.2 (T.setVm vm₁) hT hW₁⟩) with ⟨v, vm₁, ⟨U', l2, c2, s2⟩, hW₁, X', ⟨g', mk, t, L, e1, e2, hq, h1, hL, h2, h3⟩, st⟩ | ⟨q, vm₁, ⟨U', l2, c2, s2⟩, hW₁, X', ⟨g', mk, t, L, E, ce, e1, e2, hq, hce, hcv, hcl, h1, hL, h2, h3⟩, st⟩
  · dsimp only [Pt.U, Pt.locs, Pt.cells, Pt.slots] at X' e1 e2 h1 h2 h3 st
    subst h1; subst h2; subst h3
    exact Or.inl ⟨v, (T.setVm vm₁).calling g' mk As.toArray, t, U', L, hT, X', hL, e1, e2, hq, st⟩
  · dsimp only [Pt.U, Pt.locs, Pt.cells, Pt.slots] at X' e1 e2 h1 h2 h3 st hcl
    subst h1; subst h2; subst h3
    exact Or.inr ⟨q, (T.setVm vm₁).calling g' mk As.toArray, t, U', L, E, ce, hT, X', hL, e1, e2, hq, hce, hcv, vx_cls hW₁ hcl, st⟩
end
end VXH
theorem vx_ofWH {l : Launch} {y : MethodName} {ws ws' : List Cond} {rm : Room} {Pc : Array Value → State → Prop} {Qc : Array Value → State → Outcome → State → Prop} {XC : String → State → State → Prop} {mc ms : Nat} {free : Addr → Prop} {cc : ByteArray} {maxL : Nat} {ret : Option FieldType} {hh : List (Nat × Nat × Nat × Nat)}
    (hy : plainName y.cls = true) (hw : ws = Cond.codeWith y cc maxL ret hh :: ws')
    (body : ∀ p e s m args below meth c s₁, BodyLoose p l y (headSpec ws rm) cc maxL ret e s m args below meth c s₁ → c.maxLocals = maxL → Pc args s →
      W p l e (headSpec ws rm).room s m args below meth c s.heap [] 0 0 (vx_MQ below Qc XC args s mc ms free) (entryFrame m args maxL)) : vx_Met l y ws rm Pc Qc XC mc ms free := by
  refine MetFree.of_bodyS (code := cc) (maxLocals := maxL) (ret := ret) hy ?_ ?_
  · intro args s m h hn
    obtain ⟨m9, meth, c, hn9, h1, h2, h3, h4, -, h5, h6, -⟩ := Cond.codeWith_spec (atoms_spec (ws := ws) h _ (by rw [hw]; exact List.mem_cons_self))
    cases hn.symm.trans hn9
    exact ⟨meth, c, h1, h2, h3, h4, h5, h6⟩
  · intro p e s m args below meth c s₁ B hml hP _
    have hh0 : s₁.heap = s.heap := by rw [B.state]; rfl
    obtain ⟨t, a1, o, b1, b2, b3⟩ := body p e s m args below meth c s₁ B hml hP s₁ hh0 (Stand.of_body B)
    exact ⟨t, o, a1, b1, b2, b3⟩
/-! ===== END ===== -/
end
section
/-! ===== BEGIN printed: names, fields, word lists, decode rows ===== -/
def RX0 : String := "PosterTypes$Fount"
def TX0 : u_T := fun k => match k with
  | 0 => ("PosterTypes$Fount", "number", "I", true)
  | 1 => ("PosterTypes$Fount", "height", "I", true)
  | 2 => ("PosterTypes$Fount", "blocks", "[I", true)
  | 3 => ("PosterTypes$Fount", "free", "[I", true)
  | 4 => ("PosterTypes$Fount", "wear", "[I", true)
  | _ => ("PosterTypes$Fount", "left", "[I", true)
def tyX0 : Nat → FieldType := fun k => match k with
  | 0 => .int
  | 1 => .int
  | 2 => .array .int
  | 3 => .array .int
  | 4 => .array .int
  | _ => .array .int
abbrev wsX00 : List Cond := u_ws RX0 TX0 6
theorem nmX0 : ∀ a, a < 6 → ∀ b, b < 6 → a ≠ b → (TX0 a).2.1 ≠ (TX0 b).2.1 := by decide +kernel
theorem tyX0_ok : ∀ k, k < 6 → parseFieldDescriptor (TX0 k).2.2.1 = some (tyX0 k) := by decide +kernel
abbrev cX0_init : ByteArray := prog_2_method_1_code
def yX0_init : MethodName := ⟨RX0, "<init>", "(II)V"⟩
abbrev cX0_addBlocks : ByteArray := prog_2_method_2_code
def yX0_addBlocks : MethodName := ⟨RX0, "addBlocks", "(II)V"⟩
abbrev cX0_leaveFree : ByteArray := prog_2_method_3_code
def yX0_leaveFree : MethodName := ⟨RX0, "leaveFree", "()V"⟩
abbrev cX0_spendOn : ByteArray := prog_2_method_4_code
def yX0_spendOn : MethodName := ⟨RX0, "spendOn", "(LPosterTypes$Line;)V"⟩
abbrev cX0_breakWorn : ByteArray := prog_2_method_5_code
def yX0_breakWorn : MethodName := ⟨RX0, "breakWorn", "()I"⟩
def RX1 : String := "PosterTypes$Line"
def TX1 : u_T := fun k => match k with
  | 0 => ("PosterTypes$Line", "letters", "[I", true)
  | 1 => ("PosterTypes$Line", "size", "I", true)
  | 2 => ("PosterTypes$Line", "takes", "[I", true)
  | 3 => ("PosterTypes$Line", "fount", "LPosterTypes$Fount;", false)
  | 4 => ("PosterTypes$Line", "flaws", "I", false)
  | _ => ("PosterTypes$Line", "laidWord", "I", false)
def tyX1 : Nat → FieldType := fun k => match k with
  | 0 => .array .int
  | 1 => .int
  | 2 => .array .int
  | 3 => .object "PosterTypes$Fount"
  | 4 => .int
  | _ => .int
abbrev wsX10 : List Cond := u_ws RX1 TX1 6
theorem nmX1 : ∀ a, a < 6 → ∀ b, b < 6 → a ≠ b → (TX1 a).2.1 ≠ (TX1 b).2.1 := by decide +kernel
theorem tyX1_ok : ∀ k, k < 6 → parseFieldDescriptor (TX1 k).2.2.1 = some (tyX1 k) := by decide +kernel
abbrev cX1_init : ByteArray := prog_3_method_1_code
def yX1_init : MethodName := ⟨RX1, "<init>", "(I)V"⟩
abbrev cX1_startIn : ByteArray := prog_3_method_2_code
def yX1_startIn : MethodName := ⟨RX1, "startIn", "(LPosterTypes$Fount;)V"⟩
abbrev cX1_put : ByteArray := prog_3_method_3_code
def yX1_put : MethodName := ⟨RX1, "put", "(IZ)V"⟩
abbrev cX1_fountNumber : ByteArray := prog_3_method_4_code
def yX1_fountNumber : MethodName := ⟨RX1, "fountNumber", "()I"⟩
abbrev cX1_sizeAsLaid : ByteArray := prog_3_method_5_code
def yX1_sizeAsLaid : MethodName := ⟨RX1, "sizeAsLaid", "()I"⟩
abbrev cX1_takeOut : ByteArray := prog_3_method_6_code
def yX1_takeOut : MethodName := ⟨RX1, "takeOut", "()V"⟩
abbrev cX1_putBack : ByteArray := prog_3_method_7_code
def yX1_putBack : MethodName := ⟨RX1, "putBack", "()V"⟩
abbrev cX1_wearBy : ByteArray := prog_3_method_8_code
def yX1_wearBy : MethodName := ⟨RX1, "wearBy", "(I)V"⟩
def RX2 : String := "PosterTypes$Poster"
def TX2 : u_T := fun k => match k with
  | 0 => ("PosterTypes$Poster", "town", "I", true)
  | 1 => ("PosterTypes$Poster", "tall", "I", true)
  | 2 => ("PosterTypes$Poster", "lines", "Ljava/util/ArrayList;", true)
  | 3 => ("PosterTypes$Poster", "isSet", "Z", false)
  | _ => ("PosterTypes$Poster", "copies", "I", false)
def tyX2 : Nat → FieldType := fun k => match k with
  | 0 => .int
  | 1 => .int
  | 2 => .object "java/util/ArrayList"
  | 3 => .boolean
  | _ => .int
abbrev wsX20 : List Cond := u_ws RX2 TX2 5
theorem nmX2 : ∀ a, a < 5 → ∀ b, b < 5 → a ≠ b → (TX2 a).2.1 ≠ (TX2 b).2.1 := by decide +kernel
theorem tyX2_ok : ∀ k, k < 5 → parseFieldDescriptor (TX2 k).2.2.1 = some (tyX2 k) := by decide +kernel
abbrev cX2_init : ByteArray := prog_4_method_1_code
def yX2_init : MethodName := ⟨RX2, "<init>", "(II)V"⟩
abbrev cX2_isReady : ByteArray := prog_4_method_2_code
def yX2_isReady : MethodName := ⟨RX2, "isReady", "()Z"⟩
abbrev cX2_letters : ByteArray := prog_4_method_3_code
def yX2_letters : MethodName := ⟨RX2, "letters", "()I"⟩
abbrev cX2_flawsAsLaid : ByteArray := prog_4_method_4_code
def yX2_flawsAsLaid : MethodName := ⟨RX2, "flawsAsLaid", "()I"⟩
abbrev cX2_sizeAsLaid : ByteArray := prog_4_method_5_code
def yX2_sizeAsLaid : MethodName := ⟨RX2, "sizeAsLaid", "()I"⟩
abbrev cX2_blocksLaid : ByteArray := prog_4_method_6_code
def yX2_blocksLaid : MethodName := ⟨RX2, "blocksLaid", "(LPosterTypes$Fount;I)I"⟩
def RX3 : String := "PosterTypes"
def TX3 : u_T := fun k => match k with
  | 0 => ("PosterTypes", "founts", "Ljava/util/ArrayList;", true)
  | 1 => ("PosterTypes", "posters", "Ljava/util/ArrayList;", true)
  | 2 => ("PosterTypes", "others", "[I", true)
  | 3 => ("PosterTypes", "pays", "[I", true)
  | 4 => ("PosterTypes", "stricts", "[I", true)
  | 5 => ("PosterTypes", "coins", "I", false)
  | _ => ("PosterTypes", "broken", "I", false)
def tyX3 : Nat → FieldType := fun k => match k with
  | 0 => .object "java/util/ArrayList"
  | 1 => .object "java/util/ArrayList"
  | 2 => .array .int
  | 3 => .array .int
  | 4 => .array .int
  | 5 => .int
  | _ => .int
abbrev wsX30 : List Cond := u_ws RX3 TX3 7
theorem nmX3 : ∀ a, a < 7 → ∀ b, b < 7 → a ≠ b → (TX3 a).2.1 ≠ (TX3 b).2.1 := by decide +kernel
theorem tyX3_ok : ∀ k, k < 7 → parseFieldDescriptor (TX3 k).2.2.1 = some (tyX3 k) := by decide +kernel
abbrev cX3_init : ByteArray := prog_1_method_1_code
def yX3_init : MethodName := ⟨RX3, "<init>", "()V"⟩
abbrev cX3_fount : ByteArray := prog_1_method_2_code
def yX3_fount : MethodName := ⟨RX3, "fount", "(I)I"⟩
abbrev cX3_buy : ByteArray := prog_1_method_3_code
def yX3_buy : MethodName := ⟨RX3, "buy", "(III)I"⟩
abbrev cX3_buyAll : ByteArray := prog_1_method_4_code
def yX3_buyAll : MethodName := ⟨RX3, "buyAll", "(II)I"⟩
abbrev cX3_setOther : ByteArray := prog_1_method_5_code
def yX3_setOther : MethodName := ⟨RX3, "setOther", "(II)I"⟩
abbrev cX3_setTown : ByteArray := prog_1_method_6_code
def yX3_setTown : MethodName := ⟨RX3, "setTown", "(III)I"⟩
abbrev cX3_poster : ByteArray := prog_1_method_7_code
def yX3_poster : MethodName := ⟨RX3, "poster", "(II)I"⟩
abbrev cX3_line : ByteArray := prog_1_method_8_code
def yX3_line : MethodName := ⟨RX3, "line", "(II)I"⟩
abbrev cX3_set : ByteArray := prog_1_method_9_code
def yX3_set : MethodName := ⟨RX3, "set", "(I)I"⟩
abbrev cX3_print : ByteArray := prog_1_method_10_code
def yX3_print : MethodName := ⟨RX3, "print", "(II)I"⟩
abbrev cX3_strike : ByteArray := prog_1_method_11_code
def yX3_strike : MethodName := ⟨RX3, "strike", "(I)I"⟩
abbrev cX3_block : ByteArray := prog_1_method_12_code
def yX3_block : MethodName := ⟨RX3, "block", "(III)I"⟩
abbrev cX3_told : ByteArray := prog_1_method_13_code
def yX3_told : MethodName := ⟨RX3, "told", "(II)I"⟩
abbrev cX3_about : ByteArray := prog_1_method_14_code
def yX3_about : MethodName := ⟨RX3, "about", "(III)I"⟩
abbrev cX3_count : ByteArray := prog_1_method_15_code
def yX3_count : MethodName := ⟨RX3, "count", "(I)I"⟩
abbrev cX3_would : ByteArray := prog_1_method_16_code
def yX3_would : MethodName := ⟨RX3, "would", "(II)I"⟩
abbrev cX3_next : ByteArray := prog_1_method_17_code
def yX3_next : MethodName := ⟨RX3, "next", "()I"⟩
abbrev cX3_advise : ByteArray := prog_1_method_18_code
def yX3_advise : MethodName := ⟨RX3, "advise", "(I)I"⟩
abbrev cX3_lasts : ByteArray := prog_1_method_19_code
def yX3_lasts : MethodName := ⟨RX3, "lasts", "(I)I"⟩
abbrev cX3_mean : ByteArray := prog_1_method_20_code
def yX3_mean : MethodName := ⟨RX3, "mean", "()D"⟩
abbrev cX3_digest : ByteArray := prog_1_method_21_code
def yX3_digest : MethodName := ⟨RX3, "digest", "()J"⟩
abbrev cX3_mixed : ByteArray := prog_1_method_22_code
def yX3_mixed : MethodName := ⟨RX3, "mixed", "(JI)J"⟩
abbrev cX3_mixedWithFount : ByteArray := prog_1_method_23_code
def yX3_mixedWithFount : MethodName := ⟨RX3, "mixedWithFount", "(JI)J"⟩
abbrev cX3_mixedWithPoster : ByteArray := prog_1_method_24_code
def yX3_mixedWithPoster : MethodName := ⟨RX3, "mixedWithPoster", "(JI)J"⟩
abbrev cX3_isFount : ByteArray := prog_1_method_25_code
def yX3_isFount : MethodName := ⟨RX3, "isFount", "(I)Z"⟩
abbrev cX3_isPoster : ByteArray := prog_1_method_26_code
def yX3_isPoster : MethodName := ⟨RX3, "isPoster", "(I)Z"⟩
abbrev cX3_isLetter : ByteArray := prog_1_method_27_code
def yX3_isLetter : MethodName := ⟨RX3, "isLetter", "(I)Z"⟩
abbrev cX3_isTown : ByteArray := prog_1_method_28_code
def yX3_isTown : MethodName := ⟨RX3, "isTown", "(I)Z"⟩
abbrev cX3_postersSet : ByteArray := prog_1_method_29_code
def yX3_postersSet : MethodName := ⟨RX3, "postersSet", "()I"⟩
abbrev cX3_blocksInAll : ByteArray := prog_1_method_30_code
def yX3_blocksInAll : MethodName := ⟨RX3, "blocksInAll", "()I"⟩
abbrev cX3_freeInAll : ByteArray := prog_1_method_31_code
def yX3_freeInAll : MethodName := ⟨RX3, "freeInAll", "()I"⟩
abbrev cX3_isFewer : ByteArray := prog_1_method_32_code
def yX3_isFewer : MethodName := ⟨RX3, "isFewer", "(II)Z"⟩
abbrev cX3_copiesUntilWorn : ByteArray := prog_1_method_33_code
def yX3_copiesUntilWorn : MethodName := ⟨RX3, "copiesUntilWorn", "(LPosterTypes$Poster;LPosterTypes$Fount;I)I"⟩
abbrev cX3_proofIfSet : ByteArray := prog_1_method_34_code
def yX3_proofIfSet : MethodName := ⟨RX3, "proofIfSet", "(LPosterTypes$Poster;)I"⟩
abbrev cX3_proofAsLaid : ByteArray := prog_1_method_35_code
def yX3_proofAsLaid : MethodName := ⟨RX3, "proofAsLaid", "(LPosterTypes$Poster;)I"⟩
abbrev cX3_plan : ByteArray := prog_1_method_36_code
def yX3_plan : MethodName := ⟨RX3, "plan", "(LPosterTypes$Poster;)I"⟩
abbrev cX3_planWithOneMore : ByteArray := prog_1_method_37_code
def yX3_planWithOneMore : MethodName := ⟨RX3, "planWithOneMore", "(LPosterTypes$Poster;LPosterTypes$Fount;I)I"⟩
abbrev cX3_leaveAllFree : ByteArray := prog_1_method_38_code
def yX3_leaveAllFree : MethodName := ⟨RX3, "leaveAllFree", "()V"⟩
abbrev cX3_layLines : ByteArray := prog_1_method_39_code
def yX3_layLines : MethodName := ⟨RX3, "layLines", "(LPosterTypes$Poster;)I"⟩
abbrev cX3_bestFount : ByteArray := prog_1_method_40_code
def yX3_bestFount : MethodName := ⟨RX3, "bestFount", "(LPosterTypes$Line;I)LPosterTypes$Fount;"⟩
abbrev cX3_lay : ByteArray := prog_1_method_41_code
def yX3_lay : MethodName := ⟨RX3, "lay", "(LPosterTypes$Line;LPosterTypes$Fount;)Z"⟩
abbrev cX3_blockFor : ByteArray := prog_1_method_42_code
def yX3_blockFor : MethodName := ⟨RX3, "blockFor", "(ILPosterTypes$Line;LPosterTypes$Fount;)I"⟩
def RX4 : String := "PosterTypesModel"
def TX4 : u_T := fun k => match k with
  | 0 => ("PosterTypesModel", "thrown", "I", false)
  | 1 => ("PosterTypesModel", "founts", "I", false)
  | 2 => ("PosterTypesModel", "posters", "I", false)
  | 3 => ("PosterTypesModel", "coins", "I", false)
  | 4 => ("PosterTypesModel", "broken", "I", false)
  | 5 => ("PosterTypesModel", "height", "[I", true)
  | 6 => ("PosterTypesModel", "blocks", "[I", true)
  | 7 => ("PosterTypesModel", "out", "[I", true)
  | 8 => ("PosterTypesModel", "wear", "[I", true)
  | 9 => ("PosterTypesModel", "other", "[I", true)
  | 10 => ("PosterTypesModel", "pay", "[I", true)
  | 11 => ("PosterTypesModel", "strict", "[I", true)
  | 12 => ("PosterTypesModel", "town", "[I", true)
  | 13 => ("PosterTypesModel", "tall", "[I", true)
  | 14 => ("PosterTypesModel", "lines", "[I", true)
  | 15 => ("PosterTypesModel", "isSet", "[I", true)
  | 16 => ("PosterTypesModel", "copies", "[I", true)
  | 17 => ("PosterTypesModel", "word", "[I", true)
  | 18 => ("PosterTypesModel", "from", "[I", true)
  | 19 => ("PosterTypesModel", "flaws", "[I", true)
  | 20 => ("PosterTypesModel", "taken", "[I", true)
  | 21 => ("PosterTypesModel", "more", "[I", true)
  | 22 => ("PosterTypesModel", "triedFrom", "[I", true)
  | 23 => ("PosterTypesModel", "triedFlaws", "[I", true)
  | 24 => ("PosterTypesModel", "triedWord", "[I", true)
  | 25 => ("PosterTypesModel", "its", "[I", true)
  | _ => ("PosterTypesModel", "wordNow", "I", false)
def tyX4 : Nat → FieldType := fun k => match k with
  | 0 => .int
  | 1 => .int
  | 2 => .int
  | 3 => .int
  | 4 => .int
  | 5 => .array .int
  | 6 => .array .int
  | 7 => .array .int
  | 8 => .array .int
  | 9 => .array .int
  | 10 => .array .int
  | 11 => .array .int
  | 12 => .array .int
  | 13 => .array .int
  | 14 => .array .int
  | 15 => .array .int
  | 16 => .array .int
  | 17 => .array .int
  | 18 => .array .int
  | 19 => .array .int
  | 20 => .array .int
  | 21 => .array .int
  | 22 => .array .int
  | 23 => .array .int
  | 24 => .array .int
  | 25 => .array .int
  | _ => .int
abbrev wsX40 : List Cond := u_ws RX4 TX4 27
theorem nmX4 : ∀ a, a < 27 → ∀ b, b < 27 → a ≠ b → (TX4 a).2.1 ≠ (TX4 b).2.1 := by decide +kernel
theorem tyX4_ok : ∀ k, k < 27 → parseFieldDescriptor (TX4 k).2.2.1 = some (tyX4 k) := by decide +kernel
abbrev cX4_init : ByteArray := prog_6_method_1_code
def yX4_init : MethodName := ⟨RX4, "<init>", "()V"⟩
abbrev cX4_thrown : ByteArray := prog_6_method_2_code
def yX4_thrown : MethodName := ⟨RX4, "thrown", "()I"⟩
abbrev cX4_no : ByteArray := prog_6_method_3_code
def yX4_no : MethodName := ⟨RX4, "no", "(I)I"⟩
abbrev cX4_isIn : ByteArray := prog_6_method_4_code
def yX4_isIn : MethodName := ⟨RX4, "isIn", "(III)Z"⟩
abbrev cX4_isFount : ByteArray := prog_6_method_5_code
def yX4_isFount : MethodName := ⟨RX4, "isFount", "(I)Z"⟩
abbrev cX4_isLetter : ByteArray := prog_6_method_6_code
def yX4_isLetter : MethodName := ⟨RX4, "isLetter", "(I)Z"⟩
abbrev cX4_isTown : ByteArray := prog_6_method_7_code
def yX4_isTown : MethodName := ⟨RX4, "isTown", "(I)Z"⟩
abbrev cX4_isPoster : ByteArray := prog_6_method_8_code
def yX4_isPoster : MethodName := ⟨RX4, "isPoster", "(I)Z"⟩
abbrev cX4_size : ByteArray := prog_6_method_9_code
def yX4_size : MethodName := ⟨RX4, "size", "(I)I"⟩
abbrev cX4_letterAt : ByteArray := prog_6_method_10_code
def yX4_letterAt : MethodName := ⟨RX4, "letterAt", "(II)I"⟩
abbrev cX4_isLeft : ByteArray := prog_6_method_11_code
def yX4_isLeft : MethodName := ⟨RX4, "isLeft", "(II)Z"⟩
abbrev cX4_tryLine : ByteArray := prog_6_method_12_code
def yX4_tryLine : MethodName := ⟨RX4, "tryLine", "(II)I"⟩
abbrev cX4_isBetter : ByteArray := prog_6_method_13_code
def yX4_isBetter : MethodName := ⟨RX4, "isBetter", "(IIII)Z"⟩
abbrev cX4_bestOf : ByteArray := prog_6_method_14_code
def yX4_bestOf : MethodName := ⟨RX4, "bestOf", "(II)I"⟩
abbrev cX4_tryPoster : ByteArray := prog_6_method_15_code
def yX4_tryPoster : MethodName := ⟨RX4, "tryPoster", "(I)I"⟩
abbrev cX4_letters : ByteArray := prog_6_method_16_code
def yX4_letters : MethodName := ⟨RX4, "letters", "(I)I"⟩
abbrev cX4_flawsOf : ByteArray := prog_6_method_17_code
def yX4_flawsOf : MethodName := ⟨RX4, "flawsOf", "(I)I"⟩
abbrev cX4_worth : ByteArray := prog_6_method_18_code
def yX4_worth : MethodName := ⟨RX4, "worth", "(III)I"⟩
abbrev cX4_proof : ByteArray := prog_6_method_19_code
def yX4_proof : MethodName := ⟨RX4, "proof", "(I)I"⟩
abbrev cX4_proofTried : ByteArray := prog_6_method_20_code
def yX4_proofTried : MethodName := ⟨RX4, "proofTried", "(I)I"⟩
abbrev cX4_outOf : ByteArray := prog_6_method_21_code
def yX4_outOf : MethodName := ⟨RX4, "outOf", "(III)I"⟩
abbrev cX4_fount : ByteArray := prog_6_method_22_code
def yX4_fount : MethodName := ⟨RX4, "fount", "(I)I"⟩
abbrev cX4_buy : ByteArray := prog_6_method_23_code
def yX4_buy : MethodName := ⟨RX4, "buy", "(III)I"⟩
abbrev cX4_buyAll : ByteArray := prog_6_method_24_code
def yX4_buyAll : MethodName := ⟨RX4, "buyAll", "(II)I"⟩
abbrev cX4_setOther : ByteArray := prog_6_method_25_code
def yX4_setOther : MethodName := ⟨RX4, "setOther", "(II)I"⟩
abbrev cX4_setTown : ByteArray := prog_6_method_26_code
def yX4_setTown : MethodName := ⟨RX4, "setTown", "(III)I"⟩
abbrev cX4_poster : ByteArray := prog_6_method_27_code
def yX4_poster : MethodName := ⟨RX4, "poster", "(II)I"⟩
abbrev cX4_line : ByteArray := prog_6_method_28_code
def yX4_line : MethodName := ⟨RX4, "line", "(II)I"⟩
abbrev cX4_set : ByteArray := prog_6_method_29_code
def yX4_set : MethodName := ⟨RX4, "set", "(I)I"⟩
abbrev cX4_print : ByteArray := prog_6_method_30_code
def yX4_print : MethodName := ⟨RX4, "print", "(II)I"⟩
abbrev cX4_strike : ByteArray := prog_6_method_31_code
def yX4_strike : MethodName := ⟨RX4, "strike", "(I)I"⟩
abbrev cX4_blockTold : ByteArray := prog_6_method_32_code
def yX4_blockTold : MethodName := ⟨RX4, "blockTold", "(II)I"⟩
abbrev cX4_block : ByteArray := prog_6_method_33_code
def yX4_block : MethodName := ⟨RX4, "block", "(III)I"⟩
abbrev cX4_posterTold : ByteArray := prog_6_method_34_code
def yX4_posterTold : MethodName := ⟨RX4, "posterTold", "(II)I"⟩
abbrev cX4_told : ByteArray := prog_6_method_35_code
def yX4_told : MethodName := ⟨RX4, "told", "(II)I"⟩
abbrev cX4_lineTold : ByteArray := prog_6_method_36_code
def yX4_lineTold : MethodName := ⟨RX4, "lineTold", "(III)I"⟩
abbrev cX4_about : ByteArray := prog_6_method_37_code
def yX4_about : MethodName := ⟨RX4, "about", "(III)I"⟩
abbrev cX4_sum : ByteArray := prog_6_method_38_code
def yX4_sum : MethodName := ⟨RX4, "sum", "([II)I"⟩
abbrev cX4_counted : ByteArray := prog_6_method_39_code
def yX4_counted : MethodName := ⟨RX4, "counted", "(I)I"⟩
abbrev cX4_count : ByteArray := prog_6_method_40_code
def yX4_count : MethodName := ⟨RX4, "count", "(I)I"⟩
abbrev cX4_would : ByteArray := prog_6_method_41_code
def yX4_would : MethodName := ⟨RX4, "would", "(II)I"⟩
abbrev cX4_next : ByteArray := prog_6_method_42_code
def yX4_next : MethodName := ⟨RX4, "next", "()I"⟩
abbrev cX4_adviseTold : ByteArray := prog_6_method_43_code
def yX4_adviseTold : MethodName := ⟨RX4, "adviseTold", "(I)I"⟩
abbrev cX4_advise : ByteArray := prog_6_method_44_code
def yX4_advise : MethodName := ⟨RX4, "advise", "(I)I"⟩
abbrev cX4_lasts : ByteArray := prog_6_method_45_code
def yX4_lasts : MethodName := ⟨RX4, "lasts", "(I)I"⟩
abbrev cX4_mean : ByteArray := prog_6_method_46_code
def yX4_mean : MethodName := ⟨RX4, "mean", "()D"⟩
abbrev cX4_digest : ByteArray := prog_6_method_47_code
def yX4_digest : MethodName := ⟨RX4, "digest", "()J"⟩
def RJx145de : String := "java/io/Serializable"
def TJx145de : u_T := fun k => match k with
  | _ => ("", "", "", false)
def tyJx145de : Nat → FieldType := fun k => match k with
  | _ => .int
abbrev wsJx145de0 : List Cond := u_ws RJx145de TJx145de 0
theorem nmJx145de : ∀ a, a < 0 → ∀ b, b < 0 → a ≠ b → (TJx145de a).2.1 ≠ (TJx145de b).2.1 := by decide +kernel
theorem tyJx145de_ok : ∀ k, k < 0 → parseFieldDescriptor (TJx145de k).2.2.1 = some (tyJx145de k) := by decide +kernel
def RJx8e188 : String := "java/lang/Cloneable"
def TJx8e188 : u_T := fun k => match k with
  | _ => ("", "", "", false)
def tyJx8e188 : Nat → FieldType := fun k => match k with
  | _ => .int
abbrev wsJx8e1880 : List Cond := u_ws RJx8e188 TJx8e188 0
theorem nmJx8e188 : ∀ a, a < 0 → ∀ b, b < 0 → a ≠ b → (TJx8e188 a).2.1 ≠ (TJx8e188 b).2.1 := by decide +kernel
theorem tyJx8e188_ok : ∀ k, k < 0 → parseFieldDescriptor (TJx8e188 k).2.2.1 = some (tyJx8e188 k) := by decide +kernel
def RJxab1ab : String := "java/lang/Iterable"
def TJxab1ab : u_T := fun k => match k with
  | _ => ("", "", "", false)
def tyJxab1ab : Nat → FieldType := fun k => match k with
  | _ => .int
abbrev wsJxab1ab0 : List Cond := u_ws RJxab1ab TJxab1ab 0
theorem nmJxab1ab : ∀ a, a < 0 → ∀ b, b < 0 → a ≠ b → (TJxab1ab a).2.1 ≠ (TJxab1ab b).2.1 := by decide +kernel
theorem tyJxab1ab_ok : ∀ k, k < 0 → parseFieldDescriptor (TJxab1ab k).2.2.1 = some (tyJxab1ab k) := by decide +kernel
def RJ9 : String := "java/lang/Math"
def TJ9 : u_T := fun k => match k with
  | _ => ("", "", "", false)
def tyJ9 : Nat → FieldType := fun k => match k with
  | _ => .int
abbrev wsJ90 : List Cond := u_ws RJ9 TJ9 0
theorem nmJ9 : ∀ a, a < 0 → ∀ b, b < 0 → a ≠ b → (TJ9 a).2.1 ≠ (TJ9 b).2.1 := by decide +kernel
theorem tyJ9_ok : ∀ k, k < 0 → parseFieldDescriptor (TJ9 k).2.2.1 = some (tyJ9 k) := by decide +kernel
abbrev cJ9_max_7cf53 : ByteArray := prog_14_method_65_code
def yJ9_max_7cf53 : MethodName := ⟨RJ9, "max", "(II)I"⟩
abbrev cJ9_min_7cf53 : ByteArray := prog_14_method_69_code
def yJ9_min_7cf53 : MethodName := ⟨RJ9, "min", "(II)I"⟩
def RJ0 : String := "java/lang/String"
def TJ0 : u_T := fun k => match k with
  | _ => ("", "", "", false)
def tyJ0 : Nat → FieldType := fun k => match k with
  | _ => .int
abbrev wsJ00 : List Cond := u_ws RJ0 TJ0 0
theorem nmJ0 : ∀ a, a < 0 → ∀ b, b < 0 → a ≠ b → (TJ0 a).2.1 ≠ (TJ0 b).2.1 := by decide +kernel
theorem tyJ0_ok : ∀ k, k < 0 → parseFieldDescriptor (TJ0 k).2.2.1 = some (tyJ0 k) := by decide +kernel
def RJ10 : String := "java/lang/System"
def TJ10 : u_T := fun k => match k with
  | _ => ("", "", "", false)
def tyJ10 : Nat → FieldType := fun k => match k with
  | _ => .int
abbrev wsJ100 : List Cond := u_ws RJ10 TJ10 0
theorem nmJ10 : ∀ a, a < 0 → ∀ b, b < 0 → a ≠ b → (TJ10 a).2.1 ≠ (TJ10 b).2.1 := by decide +kernel
theorem tyJ10_ok : ∀ k, k < 0 → parseFieldDescriptor (TJ10 k).2.2.1 = some (tyJ10 k) := by decide +kernel
def RJxa1e45 : String := "java/util/AbstractCollection"
def TJxa1e45 : u_T := fun k => match k with
  | _ => ("", "", "", false)
def tyJxa1e45 : Nat → FieldType := fun k => match k with
  | _ => .int
abbrev wsJxa1e450 : List Cond := u_ws RJxa1e45 TJxa1e45 0
theorem nmJxa1e45 : ∀ a, a < 0 → ∀ b, b < 0 → a ≠ b → (TJxa1e45 a).2.1 ≠ (TJxa1e45 b).2.1 := by decide +kernel
theorem tyJxa1e45_ok : ∀ k, k < 0 → parseFieldDescriptor (TJxa1e45 k).2.2.1 = some (tyJxa1e45 k) := by decide +kernel
abbrev cJxa1e45_init_da8c8 : ByteArray := prog_19_method_1_code
def yJxa1e45_init_da8c8 : MethodName := ⟨RJxa1e45, "<init>", "()V"⟩
def RJxc12de : String := "java/util/AbstractList"
def TJxc12de : u_T := fun k => match k with
  | _ => ("", "", "", false)
def tyJxc12de : Nat → FieldType := fun k => match k with
  | _ => .int
abbrev wsJxc12de0 : List Cond := u_ws RJxc12de TJxc12de 0
theorem nmJxc12de : ∀ a, a < 0 → ∀ b, b < 0 → a ≠ b → (TJxc12de a).2.1 ≠ (TJxc12de b).2.1 := by decide +kernel
theorem tyJxc12de_ok : ∀ k, k < 0 → parseFieldDescriptor (TJxc12de k).2.2.1 = some (tyJxc12de k) := by decide +kernel
abbrev cJxc12de_init_da8c8 : ByteArray := prog_20_method_1_code
def yJxc12de_init_da8c8 : MethodName := ⟨RJxc12de, "<init>", "()V"⟩
def RJx4a65c : String := "java/util/ArrayList"
def TJx4a65c : u_T := fun k => match k with
  | 0 => ("java/util/AbstractList", "modCount", "I", false)
  | 1 => ("java/util/ArrayList", "elementData", "[Ljava/lang/Object;", false)
  | _ => ("java/util/ArrayList", "size", "I", false)
def tyJx4a65c : Nat → FieldType := fun k => match k with
  | 0 => .int
  | 1 => .array (.object "java/lang/Object")
  | _ => .int
abbrev wsJx4a65c0 : List Cond := u_ws RJx4a65c TJx4a65c 3
theorem nmJx4a65c : ∀ a, a < 3 → ∀ b, b < 3 → a ≠ b → (TJx4a65c a).2.1 ≠ (TJx4a65c b).2.1 := by decide +kernel
theorem tyJx4a65c_ok : ∀ k, k < 3 → parseFieldDescriptor (TJx4a65c k).2.2.1 = some (tyJx4a65c k) := by decide +kernel
abbrev cJx4a65c_init_da8c8 : ByteArray := prog_21_method_2_code
def yJx4a65c_init_da8c8 : MethodName := ⟨RJx4a65c, "<init>", "()V"⟩
abbrev cJx4a65c_grow_92f84 : ByteArray := prog_21_method_6_code
def yJx4a65c_grow_92f84 : MethodName := ⟨RJx4a65c, "grow", "(I)[Ljava/lang/Object;"⟩
abbrev cJx4a65c_grow_d5877 : ByteArray := prog_21_method_7_code
def yJx4a65c_grow_d5877 : MethodName := ⟨RJx4a65c, "grow", "()[Ljava/lang/Object;"⟩
abbrev cJx4a65c_size_8abf5 : ByteArray := prog_21_method_8_code
def yJx4a65c_size_8abf5 : MethodName := ⟨RJx4a65c, "size", "()I"⟩
abbrev cJx4a65c_isEmpty_aae02 : ByteArray := prog_21_method_9_code
def yJx4a65c_isEmpty_aae02 : MethodName := ⟨RJx4a65c, "isEmpty", "()Z"⟩
abbrev cJx4a65c_elementData_915e3 : ByteArray := prog_21_method_18_code
def yJx4a65c_elementData_915e3 : MethodName := ⟨RJx4a65c, "elementData", "(I)Ljava/lang/Object;"⟩
abbrev cJx4a65c_get_915e3 : ByteArray := prog_21_method_20_code
def yJx4a65c_get_915e3 : MethodName := ⟨RJx4a65c, "get", "(I)Ljava/lang/Object;"⟩
abbrev cJx4a65c_add_72be8 : ByteArray := prog_21_method_24_code
def yJx4a65c_add_72be8 : MethodName := ⟨RJx4a65c, "add", "(Ljava/lang/Object;[Ljava/lang/Object;I)V"⟩
abbrev cJx4a65c_add_9ea2d : ByteArray := prog_21_method_25_code
def yJx4a65c_add_9ea2d : MethodName := ⟨RJx4a65c, "add", "(Ljava/lang/Object;)Z"⟩
def RJ7 : String := "java/util/Arrays"
def TJ7 : u_T := fun k => match k with
  | _ => ("", "", "", false)
def tyJ7 : Nat → FieldType := fun k => match k with
  | _ => .int
abbrev wsJ70 : List Cond := u_ws RJ7 TJ7 0
theorem nmJ7 : ∀ a, a < 0 → ∀ b, b < 0 → a ≠ b → (TJ7 a).2.1 ≠ (TJ7 b).2.1 := by decide +kernel
theorem tyJ7_ok : ∀ k, k < 0 → parseFieldDescriptor (TJ7 k).2.2.1 = some (tyJ7 k) := by decide +kernel
abbrev cJ7_fill_53178 : ByteArray := prog_22_method_103_code
def yJ7_fill_53178 : MethodName := ⟨RJ7, "fill", "([II)V"⟩
abbrev cJ7_copyOf_1904c : ByteArray := prog_22_method_119_code
def yJ7_copyOf_1904c : MethodName := ⟨RJ7, "copyOf", "([Ljava/lang/Object;I)[Ljava/lang/Object;"⟩
abbrev cJ7_copyOf_6403c : ByteArray := prog_22_method_120_code
def yJ7_copyOf_6403c : MethodName := ⟨RJ7, "copyOf", "([Ljava/lang/Object;ILjava/lang/Class;)[Ljava/lang/Object;"⟩
def RJx5ef63 : String := "java/util/Collection"
def TJx5ef63 : u_T := fun k => match k with
  | _ => ("", "", "", false)
def tyJx5ef63 : Nat → FieldType := fun k => match k with
  | _ => .int
abbrev wsJx5ef630 : List Cond := u_ws RJx5ef63 TJx5ef63 0
theorem nmJx5ef63 : ∀ a, a < 0 → ∀ b, b < 0 → a ≠ b → (TJx5ef63 a).2.1 ≠ (TJx5ef63 b).2.1 := by decide +kernel
theorem tyJx5ef63_ok : ∀ k, k < 0 → parseFieldDescriptor (TJx5ef63 k).2.2.1 = some (tyJx5ef63 k) := by decide +kernel
def RJxbd725 : String := "java/util/List"
def TJxbd725 : u_T := fun k => match k with
  | _ => ("", "", "", false)
def tyJxbd725 : Nat → FieldType := fun k => match k with
  | _ => .int
abbrev wsJxbd7250 : List Cond := u_ws RJxbd725 TJxbd725 0
theorem nmJxbd725 : ∀ a, a < 0 → ∀ b, b < 0 → a ≠ b → (TJxbd725 a).2.1 ≠ (TJxbd725 b).2.1 := by decide +kernel
theorem tyJxbd725_ok : ∀ k, k < 0 → parseFieldDescriptor (TJxbd725 k).2.2.1 = some (tyJxbd725 k) := by decide +kernel
def RJ15 : String := "java/util/Objects"
def TJ15 : u_T := fun k => match k with
  | _ => ("", "", "", false)
def tyJ15 : Nat → FieldType := fun k => match k with
  | _ => .int
abbrev wsJ150 : List Cond := u_ws RJ15 TJ15 0
theorem nmJ15 : ∀ a, a < 0 → ∀ b, b < 0 → a ≠ b → (TJ15 a).2.1 ≠ (TJ15 b).2.1 := by decide +kernel
theorem tyJ15_ok : ∀ k, k < 0 → parseFieldDescriptor (TJ15 k).2.2.1 = some (tyJ15 k) := by decide +kernel
abbrev cJ15_checkIndex_7cf53 : ByteArray := prog_25_method_17_code
def yJ15_checkIndex_7cf53 : MethodName := ⟨RJ15, "checkIndex", "(II)I"⟩
def RJxf0a74 : String := "java/util/RandomAccess"
def TJxf0a74 : u_T := fun k => match k with
  | _ => ("", "", "", false)
def tyJxf0a74 : Nat → FieldType := fun k => match k with
  | _ => .int
abbrev wsJxf0a740 : List Cond := u_ws RJxf0a74 TJxf0a74 0
theorem nmJxf0a74 : ∀ a, a < 0 → ∀ b, b < 0 → a ≠ b → (TJxf0a74 a).2.1 ≠ (TJxf0a74 b).2.1 := by decide +kernel
theorem tyJxf0a74_ok : ∀ k, k < 0 → parseFieldDescriptor (TJxf0a74 k).2.2.1 = some (tyJxf0a74 k) := by decide +kernel
def RJxa66e6 : String := "java/util/SequencedCollection"
def TJxa66e6 : u_T := fun k => match k with
  | _ => ("", "", "", false)
def tyJxa66e6 : Nat → FieldType := fun k => match k with
  | _ => .int
abbrev wsJxa66e60 : List Cond := u_ws RJxa66e6 TJxa66e6 0
theorem nmJxa66e6 : ∀ a, a < 0 → ∀ b, b < 0 → a ≠ b → (TJxa66e6 a).2.1 ≠ (TJxa66e6 b).2.1 := by decide +kernel
theorem tyJxa66e6_ok : ∀ k, k < 0 → parseFieldDescriptor (TJxa66e6 k).2.2.1 = some (tyJxa66e6 k) := by decide +kernel
def RJ8 : String := "jdk/internal/util/ArraysSupport"
def TJ8 : u_T := fun k => match k with
  | _ => ("", "", "", false)
def tyJ8 : Nat → FieldType := fun k => match k with
  | _ => .int
abbrev wsJ80 : List Cond := u_ws RJ8 TJ8 0
theorem nmJ8 : ∀ a, a < 0 → ∀ b, b < 0 → a ≠ b → (TJ8 a).2.1 ≠ (TJ8 b).2.1 := by decide +kernel
theorem tyJ8_ok : ∀ k, k < 0 → parseFieldDescriptor (TJ8 k).2.2.1 = some (tyJ8 k) := by decide +kernel
abbrev cJ8_newLength_cabcc : ByteArray := prog_28_method_27_code
def yJ8_newLength_cabcc : MethodName := ⟨RJ8, "newLength", "(III)I"⟩
abbrev cJ8_hugeLength_7cf53 : ByteArray := prog_28_method_28_code
def yJ8_hugeLength_7cf53 : MethodName := ⟨RJ8, "hugeLength", "(II)I"⟩
def RJ3 : String := "jdk/internal/util/Preconditions"
def TJ3 : u_T := fun k => match k with
  | _ => ("", "", "", false)
def tyJ3 : Nat → FieldType := fun k => match k with
  | _ => .int
abbrev wsJ30 : List Cond := u_ws RJ3 TJ3 0
theorem nmJ3 : ∀ a, a < 0 → ∀ b, b < 0 → a ≠ b → (TJ3 a).2.1 ≠ (TJ3 b).2.1 := by decide +kernel
theorem tyJ3_ok : ∀ k, k < 0 → parseFieldDescriptor (TJ3 k).2.2.1 = some (tyJ3 k) := by decide +kernel
abbrev cJ3_checkIndex_8e157 : ByteArray := prog_29_method_11_code
def yJ3_checkIndex_8e157 : MethodName := ⟨RJ3, "checkIndex", "(IILjava/util/function/BiFunction;)I"⟩
def RL : String := "PosterTypesLaw"
abbrev cL_fount : ByteArray := method_3_code
def yL_fount : MethodName := ⟨RL, "fount", "(LPosterTypes;I[J)I"⟩
abbrev cL_buy : ByteArray := method_4_code
def yL_buy : MethodName := ⟨RL, "buy", "(LPosterTypes;III[J)I"⟩
abbrev cL_buyAll : ByteArray := method_5_code
def yL_buyAll : MethodName := ⟨RL, "buyAll", "(LPosterTypes;II[J)I"⟩
abbrev cL_setOther : ByteArray := method_6_code
def yL_setOther : MethodName := ⟨RL, "setOther", "(LPosterTypes;II[J)I"⟩
abbrev cL_setTown : ByteArray := method_7_code
def yL_setTown : MethodName := ⟨RL, "setTown", "(LPosterTypes;III[J)I"⟩
abbrev cL_poster : ByteArray := method_8_code
def yL_poster : MethodName := ⟨RL, "poster", "(LPosterTypes;II[J)I"⟩
abbrev cL_line : ByteArray := method_9_code
def yL_line : MethodName := ⟨RL, "line", "(LPosterTypes;II[J)I"⟩
abbrev cL_set : ByteArray := method_10_code
def yL_set : MethodName := ⟨RL, "set", "(LPosterTypes;I[J)I"⟩
abbrev cL_print : ByteArray := method_11_code
def yL_print : MethodName := ⟨RL, "print", "(LPosterTypes;II[J)I"⟩
abbrev cL_strike : ByteArray := method_12_code
def yL_strike : MethodName := ⟨RL, "strike", "(LPosterTypes;I[J)I"⟩
abbrev cL_block : ByteArray := method_13_code
def yL_block : MethodName := ⟨RL, "block", "(LPosterTypes;III[J)I"⟩
abbrev cL_told : ByteArray := method_14_code
def yL_told : MethodName := ⟨RL, "told", "(LPosterTypes;II[J)I"⟩
abbrev cL_about : ByteArray := method_15_code
def yL_about : MethodName := ⟨RL, "about", "(LPosterTypes;III[J)I"⟩
abbrev cL_count : ByteArray := method_16_code
def yL_count : MethodName := ⟨RL, "count", "(LPosterTypes;I[J)I"⟩
abbrev cL_would : ByteArray := method_17_code
def yL_would : MethodName := ⟨RL, "would", "(LPosterTypes;II[J)I"⟩
abbrev cL_advise : ByteArray := method_18_code
def yL_advise : MethodName := ⟨RL, "advise", "(LPosterTypes;I[J)I"⟩
abbrev cL_lasts : ByteArray := method_19_code
def yL_lasts : MethodName := ⟨RL, "lasts", "(LPosterTypes;I[J)I"⟩
abbrev cL_law : ByteArray := code
def yL_law : MethodName := ⟨RL, "law", "([I)Z"⟩
theorem dX0_init_0 : decode cX0_init 0 = .ok (.aload_n 0, 1) := by decide +kernel
theorem dX0_init_1 : decode cX0_init 1 = .ok (.invokespecial 3, 3) := by decide +kernel
theorem dX0_init_4 : decode cX0_init 4 = .ok (.aload_n 0, 1) := by decide +kernel
theorem dX0_init_5 : decode cX0_init 5 = .ok (.bipush 10, 2) := by decide +kernel
theorem dX0_init_7 : decode cX0_init 7 = .ok (.newarray .int, 2) := by decide +kernel
theorem dX0_init_9 : decode cX0_init 9 = .ok (.putfield 9, 3) := by decide +kernel
theorem dX0_init_12 : decode cX0_init 12 = .ok (.aload_n 0, 1) := by decide +kernel
theorem dX0_init_13 : decode cX0_init 13 = .ok (.bipush 10, 2) := by decide +kernel
theorem dX0_init_15 : decode cX0_init 15 = .ok (.newarray .int, 2) := by decide +kernel
theorem dX0_init_17 : decode cX0_init 17 = .ok (.putfield 15, 3) := by decide +kernel
theorem dX0_init_20 : decode cX0_init 20 = .ok (.aload_n 0, 1) := by decide +kernel
theorem dX0_init_21 : decode cX0_init 21 = .ok (.bipush 10, 2) := by decide +kernel
theorem dX0_init_23 : decode cX0_init 23 = .ok (.newarray .int, 2) := by decide +kernel
theorem dX0_init_25 : decode cX0_init 25 = .ok (.putfield 18, 3) := by decide +kernel
theorem dX0_init_28 : decode cX0_init 28 = .ok (.aload_n 0, 1) := by decide +kernel
theorem dX0_init_29 : decode cX0_init 29 = .ok (.bipush 10, 2) := by decide +kernel
theorem dX0_init_31 : decode cX0_init 31 = .ok (.newarray .int, 2) := by decide +kernel
theorem dX0_init_33 : decode cX0_init 33 = .ok (.putfield 21, 3) := by decide +kernel
theorem dX0_init_36 : decode cX0_init 36 = .ok (.aload_n 0, 1) := by decide +kernel
theorem dX0_init_37 : decode cX0_init 37 = .ok (.iload_n 1, 1) := by decide +kernel
theorem dX0_init_38 : decode cX0_init 38 = .ok (.putfield 24, 3) := by decide +kernel
theorem dX0_init_41 : decode cX0_init 41 = .ok (.aload_n 0, 1) := by decide +kernel
theorem dX0_init_42 : decode cX0_init 42 = .ok (.iload_n 2, 1) := by decide +kernel
theorem dX0_init_43 : decode cX0_init 43 = .ok (.putfield 28, 3) := by decide +kernel
theorem dX0_init_46 : decode cX0_init 46 = .ok (.return_, 1) := by decide +kernel
theorem dX0_addBlocks_0 : decode cX0_addBlocks 0 = .ok (.aload_n 0, 1) := by decide +kernel
theorem dX0_addBlocks_1 : decode cX0_addBlocks 1 = .ok (.getfield 9, 3) := by decide +kernel
theorem dX0_addBlocks_4 : decode cX0_addBlocks 4 = .ok (.iload_n 1, 1) := by decide +kernel
theorem dX0_addBlocks_5 : decode cX0_addBlocks 5 = .ok (.dup2, 1) := by decide +kernel
theorem dX0_addBlocks_6 : decode cX0_addBlocks 6 = .ok (.iaload, 1) := by decide +kernel
theorem dX0_addBlocks_7 : decode cX0_addBlocks 7 = .ok (.iload_n 2, 1) := by decide +kernel
theorem dX0_addBlocks_8 : decode cX0_addBlocks 8 = .ok (.iadd, 1) := by decide +kernel
theorem dX0_addBlocks_9 : decode cX0_addBlocks 9 = .ok (.iastore, 1) := by decide +kernel
theorem dX0_addBlocks_10 : decode cX0_addBlocks 10 = .ok (.aload_n 0, 1) := by decide +kernel
theorem dX0_addBlocks_11 : decode cX0_addBlocks 11 = .ok (.getfield 15, 3) := by decide +kernel
theorem dX0_addBlocks_14 : decode cX0_addBlocks 14 = .ok (.iload_n 1, 1) := by decide +kernel
theorem dX0_addBlocks_15 : decode cX0_addBlocks 15 = .ok (.dup2, 1) := by decide +kernel
theorem dX0_addBlocks_16 : decode cX0_addBlocks 16 = .ok (.iaload, 1) := by decide +kernel
theorem dX0_addBlocks_17 : decode cX0_addBlocks 17 = .ok (.iload_n 2, 1) := by decide +kernel
theorem dX0_addBlocks_18 : decode cX0_addBlocks 18 = .ok (.iadd, 1) := by decide +kernel
theorem dX0_addBlocks_19 : decode cX0_addBlocks 19 = .ok (.iastore, 1) := by decide +kernel
theorem dX0_addBlocks_20 : decode cX0_addBlocks 20 = .ok (.return_, 1) := by decide +kernel
theorem dX0_leaveFree_0 : decode cX0_leaveFree 0 = .ok (.aload_n 0, 1) := by decide +kernel
theorem dX0_leaveFree_1 : decode cX0_leaveFree 1 = .ok (.getfield 15, 3) := by decide +kernel
theorem dX0_leaveFree_4 : decode cX0_leaveFree 4 = .ok (.iconst 0, 1) := by decide +kernel
theorem dX0_leaveFree_5 : decode cX0_leaveFree 5 = .ok (.aload_n 0, 1) := by decide +kernel
theorem dX0_leaveFree_6 : decode cX0_leaveFree 6 = .ok (.getfield 21, 3) := by decide +kernel
theorem dX0_leaveFree_9 : decode cX0_leaveFree 9 = .ok (.iconst 0, 1) := by decide +kernel
theorem dX0_leaveFree_10 : decode cX0_leaveFree 10 = .ok (.bipush 10, 2) := by decide +kernel
theorem dX0_leaveFree_12 : decode cX0_leaveFree 12 = .ok (.invokestatic 31, 3) := by decide +kernel
theorem dX0_leaveFree_15 : decode cX0_leaveFree 15 = .ok (.return_, 1) := by decide +kernel
theorem dX0_spendOn_0 : decode cX0_spendOn 0 = .ok (.iconst 0, 1) := by decide +kernel
theorem dX0_spendOn_1 : decode cX0_spendOn 1 = .ok (.istore_n 2, 1) := by decide +kernel
theorem dX0_spendOn_2 : decode cX0_spendOn 2 = .ok (.iload_n 2, 1) := by decide +kernel
theorem dX0_spendOn_3 : decode cX0_spendOn 3 = .ok (.bipush 10, 2) := by decide +kernel
theorem dX0_spendOn_5 : decode cX0_spendOn 5 = .ok (.if_icmp .ge 24, 3) := by decide +kernel
theorem dX0_spendOn_8 : decode cX0_spendOn 8 = .ok (.aload_n 0, 1) := by decide +kernel
theorem dX0_spendOn_9 : decode cX0_spendOn 9 = .ok (.getfield 21, 3) := by decide +kernel
theorem dX0_spendOn_12 : decode cX0_spendOn 12 = .ok (.iload_n 2, 1) := by decide +kernel
theorem dX0_spendOn_13 : decode cX0_spendOn 13 = .ok (.dup2, 1) := by decide +kernel
theorem dX0_spendOn_14 : decode cX0_spendOn 14 = .ok (.iaload, 1) := by decide +kernel
theorem dX0_spendOn_15 : decode cX0_spendOn 15 = .ok (.aload_n 1, 1) := by decide +kernel
theorem dX0_spendOn_16 : decode cX0_spendOn 16 = .ok (.getfield 37, 3) := by decide +kernel
theorem dX0_spendOn_19 : decode cX0_spendOn 19 = .ok (.iload_n 2, 1) := by decide +kernel
theorem dX0_spendOn_20 : decode cX0_spendOn 20 = .ok (.iaload, 1) := by decide +kernel
theorem dX0_spendOn_21 : decode cX0_spendOn 21 = .ok (.isub, 1) := by decide +kernel
theorem dX0_spendOn_22 : decode cX0_spendOn 22 = .ok (.iastore, 1) := by decide +kernel
theorem dX0_spendOn_23 : decode cX0_spendOn 23 = .ok (.iinc 2 1, 3) := by decide +kernel
theorem dX0_spendOn_26 : decode cX0_spendOn 26 = .ok (.goto (-24), 3) := by decide +kernel
theorem dX0_spendOn_29 : decode cX0_spendOn 29 = .ok (.return_, 1) := by decide +kernel
theorem dX0_breakWorn_0 : decode cX0_breakWorn 0 = .ok (.iconst 0, 1) := by decide +kernel
theorem dX0_breakWorn_1 : decode cX0_breakWorn 1 = .ok (.istore_n 1, 1) := by decide +kernel
theorem dX0_breakWorn_2 : decode cX0_breakWorn 2 = .ok (.iconst 0, 1) := by decide +kernel
theorem dX0_breakWorn_3 : decode cX0_breakWorn 3 = .ok (.istore_n 2, 1) := by decide +kernel
theorem dX0_breakWorn_4 : decode cX0_breakWorn 4 = .ok (.iload_n 2, 1) := by decide +kernel
theorem dX0_breakWorn_5 : decode cX0_breakWorn 5 = .ok (.bipush 10, 2) := by decide +kernel
theorem dX0_breakWorn_7 : decode cX0_breakWorn 7 = .ok (.if_icmp .ge 67, 3) := by decide +kernel
theorem dX0_breakWorn_10 : decode cX0_breakWorn 10 = .ok (.aload_n 0, 1) := by decide +kernel
theorem dX0_breakWorn_11 : decode cX0_breakWorn 11 = .ok (.getfield 18, 3) := by decide +kernel
theorem dX0_breakWorn_14 : decode cX0_breakWorn 14 = .ok (.iload_n 2, 1) := by decide +kernel
theorem dX0_breakWorn_15 : decode cX0_breakWorn 15 = .ok (.iaload, 1) := by decide +kernel
theorem dX0_breakWorn_16 : decode cX0_breakWorn 16 = .ok (.sipush 400, 3) := by decide +kernel
theorem dX0_breakWorn_19 : decode cX0_breakWorn 19 = .ok (.idiv, 1) := by decide +kernel
theorem dX0_breakWorn_20 : decode cX0_breakWorn 20 = .ok (.aload_n 0, 1) := by decide +kernel
theorem dX0_breakWorn_21 : decode cX0_breakWorn 21 = .ok (.getfield 15, 3) := by decide +kernel
theorem dX0_breakWorn_24 : decode cX0_breakWorn 24 = .ok (.iload_n 2, 1) := by decide +kernel
theorem dX0_breakWorn_25 : decode cX0_breakWorn 25 = .ok (.iaload, 1) := by decide +kernel
theorem dX0_breakWorn_26 : decode cX0_breakWorn 26 = .ok (.invokestatic 42, 3) := by decide +kernel
theorem dX0_breakWorn_29 : decode cX0_breakWorn 29 = .ok (.istore_n 3, 1) := by decide +kernel
theorem dX0_breakWorn_30 : decode cX0_breakWorn 30 = .ok (.aload_n 0, 1) := by decide +kernel
theorem dX0_breakWorn_31 : decode cX0_breakWorn 31 = .ok (.getfield 9, 3) := by decide +kernel
theorem dX0_breakWorn_34 : decode cX0_breakWorn 34 = .ok (.iload_n 2, 1) := by decide +kernel
theorem dX0_breakWorn_35 : decode cX0_breakWorn 35 = .ok (.dup2, 1) := by decide +kernel
theorem dX0_breakWorn_36 : decode cX0_breakWorn 36 = .ok (.iaload, 1) := by decide +kernel
theorem dX0_breakWorn_37 : decode cX0_breakWorn 37 = .ok (.iload_n 3, 1) := by decide +kernel
theorem dX0_breakWorn_38 : decode cX0_breakWorn 38 = .ok (.isub, 1) := by decide +kernel
theorem dX0_breakWorn_39 : decode cX0_breakWorn 39 = .ok (.iastore, 1) := by decide +kernel
theorem dX0_breakWorn_40 : decode cX0_breakWorn 40 = .ok (.aload_n 0, 1) := by decide +kernel
theorem dX0_breakWorn_41 : decode cX0_breakWorn 41 = .ok (.getfield 15, 3) := by decide +kernel
theorem dX0_breakWorn_44 : decode cX0_breakWorn 44 = .ok (.iload_n 2, 1) := by decide +kernel
theorem dX0_breakWorn_45 : decode cX0_breakWorn 45 = .ok (.dup2, 1) := by decide +kernel
theorem dX0_breakWorn_46 : decode cX0_breakWorn 46 = .ok (.iaload, 1) := by decide +kernel
theorem dX0_breakWorn_47 : decode cX0_breakWorn 47 = .ok (.iload_n 3, 1) := by decide +kernel
theorem dX0_breakWorn_48 : decode cX0_breakWorn 48 = .ok (.isub, 1) := by decide +kernel
theorem dX0_breakWorn_49 : decode cX0_breakWorn 49 = .ok (.iastore, 1) := by decide +kernel
theorem dX0_breakWorn_50 : decode cX0_breakWorn 50 = .ok (.aload_n 0, 1) := by decide +kernel
theorem dX0_breakWorn_51 : decode cX0_breakWorn 51 = .ok (.getfield 18, 3) := by decide +kernel
theorem dX0_breakWorn_54 : decode cX0_breakWorn 54 = .ok (.iload_n 2, 1) := by decide +kernel
theorem dX0_breakWorn_55 : decode cX0_breakWorn 55 = .ok (.dup2, 1) := by decide +kernel
theorem dX0_breakWorn_56 : decode cX0_breakWorn 56 = .ok (.iaload, 1) := by decide +kernel
theorem dX0_breakWorn_57 : decode cX0_breakWorn 57 = .ok (.iload_n 3, 1) := by decide +kernel
theorem dX0_breakWorn_58 : decode cX0_breakWorn 58 = .ok (.sipush 400, 3) := by decide +kernel
theorem dX0_breakWorn_61 : decode cX0_breakWorn 61 = .ok (.imul, 1) := by decide +kernel
theorem dX0_breakWorn_62 : decode cX0_breakWorn 62 = .ok (.isub, 1) := by decide +kernel
theorem dX0_breakWorn_63 : decode cX0_breakWorn 63 = .ok (.iastore, 1) := by decide +kernel
theorem dX0_breakWorn_64 : decode cX0_breakWorn 64 = .ok (.iload_n 1, 1) := by decide +kernel
theorem dX0_breakWorn_65 : decode cX0_breakWorn 65 = .ok (.iload_n 3, 1) := by decide +kernel
theorem dX0_breakWorn_66 : decode cX0_breakWorn 66 = .ok (.iadd, 1) := by decide +kernel
theorem dX0_breakWorn_67 : decode cX0_breakWorn 67 = .ok (.istore_n 1, 1) := by decide +kernel
theorem dX0_breakWorn_68 : decode cX0_breakWorn 68 = .ok (.iinc 2 1, 3) := by decide +kernel
theorem dX0_breakWorn_71 : decode cX0_breakWorn 71 = .ok (.goto (-67), 3) := by decide +kernel
theorem dX0_breakWorn_74 : decode cX0_breakWorn 74 = .ok (.iload_n 1, 1) := by decide +kernel
theorem dX0_breakWorn_75 : decode cX0_breakWorn 75 = .ok (.ireturn, 1) := by decide +kernel
theorem dX1_init_0 : decode cX1_init 0 = .ok (.aload_n 0, 1) := by decide +kernel
theorem dX1_init_1 : decode cX1_init 1 = .ok (.invokespecial 3, 3) := by decide +kernel
theorem dX1_init_4 : decode cX1_init 4 = .ok (.aload_n 0, 1) := by decide +kernel
theorem dX1_init_5 : decode cX1_init 5 = .ok (.bipush 8, 2) := by decide +kernel
theorem dX1_init_7 : decode cX1_init 7 = .ok (.newarray .int, 2) := by decide +kernel
theorem dX1_init_9 : decode cX1_init 9 = .ok (.putfield 9, 3) := by decide +kernel
theorem dX1_init_12 : decode cX1_init 12 = .ok (.aload_n 0, 1) := by decide +kernel
theorem dX1_init_13 : decode cX1_init 13 = .ok (.bipush 10, 2) := by decide +kernel
theorem dX1_init_15 : decode cX1_init 15 = .ok (.newarray .int, 2) := by decide +kernel
theorem dX1_init_17 : decode cX1_init 17 = .ok (.putfield 15, 3) := by decide +kernel
theorem dX1_init_20 : decode cX1_init 20 = .ok (.iconst 1, 1) := by decide +kernel
theorem dX1_init_21 : decode cX1_init 21 = .ok (.istore_n 2, 1) := by decide +kernel
theorem dX1_init_22 : decode cX1_init 22 = .ok (.iload_n 1, 1) := by decide +kernel
theorem dX1_init_23 : decode cX1_init 23 = .ok (.bipush 10, 2) := by decide +kernel
theorem dX1_init_25 : decode cX1_init 25 = .ok (.idiv, 1) := by decide +kernel
theorem dX1_init_26 : decode cX1_init 26 = .ok (.istore_n 3, 1) := by decide +kernel
theorem dX1_init_27 : decode cX1_init 27 = .ok (.iload_n 3, 1) := by decide +kernel
theorem dX1_init_28 : decode cX1_init 28 = .ok (.ifCond .le 20, 3) := by decide +kernel
theorem dX1_init_31 : decode cX1_init 31 = .ok (.iload_n 2, 1) := by decide +kernel
theorem dX1_init_32 : decode cX1_init 32 = .ok (.bipush 8, 2) := by decide +kernel
theorem dX1_init_34 : decode cX1_init 34 = .ok (.if_icmp .ge 14, 3) := by decide +kernel
theorem dX1_init_37 : decode cX1_init 37 = .ok (.iinc 2 1, 3) := by decide +kernel
theorem dX1_init_40 : decode cX1_init 40 = .ok (.iload_n 3, 1) := by decide +kernel
theorem dX1_init_41 : decode cX1_init 41 = .ok (.bipush 10, 2) := by decide +kernel
theorem dX1_init_43 : decode cX1_init 43 = .ok (.idiv, 1) := by decide +kernel
theorem dX1_init_44 : decode cX1_init 44 = .ok (.istore_n 3, 1) := by decide +kernel
theorem dX1_init_45 : decode cX1_init 45 = .ok (.goto (-18), 3) := by decide +kernel
theorem dX1_init_48 : decode cX1_init 48 = .ok (.aload_n 0, 1) := by decide +kernel
theorem dX1_init_49 : decode cX1_init 49 = .ok (.iload_n 2, 1) := by decide +kernel
theorem dX1_init_50 : decode cX1_init 50 = .ok (.putfield 18, 3) := by decide +kernel
theorem dX1_init_53 : decode cX1_init 53 = .ok (.iload_n 1, 1) := by decide +kernel
theorem dX1_init_54 : decode cX1_init 54 = .ok (.istore_n 3, 1) := by decide +kernel
theorem dX1_init_55 : decode cX1_init 55 = .ok (.iload_n 2, 1) := by decide +kernel
theorem dX1_init_56 : decode cX1_init 56 = .ok (.iconst 1, 1) := by decide +kernel
theorem dX1_init_57 : decode cX1_init 57 = .ok (.isub, 1) := by decide +kernel
theorem dX1_init_58 : decode cX1_init 58 = .ok (.istore 4, 2) := by decide +kernel
theorem dX1_init_60 : decode cX1_init 60 = .ok (.iload 4, 2) := by decide +kernel
theorem dX1_init_62 : decode cX1_init 62 = .ok (.ifCond .lt 25, 3) := by decide +kernel
theorem dX1_init_65 : decode cX1_init 65 = .ok (.aload_n 0, 1) := by decide +kernel
theorem dX1_init_66 : decode cX1_init 66 = .ok (.getfield 9, 3) := by decide +kernel
theorem dX1_init_69 : decode cX1_init 69 = .ok (.iload 4, 2) := by decide +kernel
theorem dX1_init_71 : decode cX1_init 71 = .ok (.iload_n 3, 1) := by decide +kernel
theorem dX1_init_72 : decode cX1_init 72 = .ok (.bipush 10, 2) := by decide +kernel
theorem dX1_init_74 : decode cX1_init 74 = .ok (.irem, 1) := by decide +kernel
theorem dX1_init_75 : decode cX1_init 75 = .ok (.iastore, 1) := by decide +kernel
theorem dX1_init_76 : decode cX1_init 76 = .ok (.iload_n 3, 1) := by decide +kernel
theorem dX1_init_77 : decode cX1_init 77 = .ok (.bipush 10, 2) := by decide +kernel
theorem dX1_init_79 : decode cX1_init 79 = .ok (.idiv, 1) := by decide +kernel
theorem dX1_init_80 : decode cX1_init 80 = .ok (.istore_n 3, 1) := by decide +kernel
theorem dX1_init_81 : decode cX1_init 81 = .ok (.iinc 4 (-1), 3) := by decide +kernel
theorem dX1_init_84 : decode cX1_init 84 = .ok (.goto (-24), 3) := by decide +kernel
theorem dX1_init_87 : decode cX1_init 87 = .ok (.return_, 1) := by decide +kernel
theorem dX1_startIn_0 : decode cX1_startIn 0 = .ok (.aload_n 0, 1) := by decide +kernel
theorem dX1_startIn_1 : decode cX1_startIn 1 = .ok (.getfield 15, 3) := by decide +kernel
theorem dX1_startIn_4 : decode cX1_startIn 4 = .ok (.iconst 0, 1) := by decide +kernel
theorem dX1_startIn_5 : decode cX1_startIn 5 = .ok (.invokestatic 22, 3) := by decide +kernel
theorem dX1_startIn_8 : decode cX1_startIn 8 = .ok (.aload_n 0, 1) := by decide +kernel
theorem dX1_startIn_9 : decode cX1_startIn 9 = .ok (.aload_n 1, 1) := by decide +kernel
theorem dX1_startIn_10 : decode cX1_startIn 10 = .ok (.putfield 28, 3) := by decide +kernel
theorem dX1_startIn_13 : decode cX1_startIn 13 = .ok (.aload_n 0, 1) := by decide +kernel
theorem dX1_startIn_14 : decode cX1_startIn 14 = .ok (.iconst 0, 1) := by decide +kernel
theorem dX1_startIn_15 : decode cX1_startIn 15 = .ok (.putfield 32, 3) := by decide +kernel
theorem dX1_startIn_18 : decode cX1_startIn 18 = .ok (.aload_n 0, 1) := by decide +kernel
theorem dX1_startIn_19 : decode cX1_startIn 19 = .ok (.iconst 0, 1) := by decide +kernel
theorem dX1_startIn_20 : decode cX1_startIn 20 = .ok (.putfield 35, 3) := by decide +kernel
theorem dX1_startIn_23 : decode cX1_startIn 23 = .ok (.return_, 1) := by decide +kernel
theorem dX1_put_0 : decode cX1_put 0 = .ok (.aload_n 0, 1) := by decide +kernel
theorem dX1_put_1 : decode cX1_put 1 = .ok (.getfield 15, 3) := by decide +kernel
theorem dX1_put_4 : decode cX1_put 4 = .ok (.iload_n 1, 1) := by decide +kernel
theorem dX1_put_5 : decode cX1_put 5 = .ok (.dup2, 1) := by decide +kernel
theorem dX1_put_6 : decode cX1_put 6 = .ok (.iaload, 1) := by decide +kernel
theorem dX1_put_7 : decode cX1_put 7 = .ok (.iconst 1, 1) := by decide +kernel
theorem dX1_put_8 : decode cX1_put 8 = .ok (.iadd, 1) := by decide +kernel
theorem dX1_put_9 : decode cX1_put 9 = .ok (.iastore, 1) := by decide +kernel
theorem dX1_put_10 : decode cX1_put 10 = .ok (.aload_n 0, 1) := by decide +kernel
theorem dX1_put_11 : decode cX1_put 11 = .ok (.aload_n 0, 1) := by decide +kernel
theorem dX1_put_12 : decode cX1_put 12 = .ok (.getfield 35, 3) := by decide +kernel
theorem dX1_put_15 : decode cX1_put 15 = .ok (.bipush 10, 2) := by decide +kernel
theorem dX1_put_17 : decode cX1_put 17 = .ok (.imul, 1) := by decide +kernel
theorem dX1_put_18 : decode cX1_put 18 = .ok (.iload_n 1, 1) := by decide +kernel
theorem dX1_put_19 : decode cX1_put 19 = .ok (.iadd, 1) := by decide +kernel
theorem dX1_put_20 : decode cX1_put 20 = .ok (.putfield 35, 3) := by decide +kernel
theorem dX1_put_23 : decode cX1_put 23 = .ok (.aload_n 0, 1) := by decide +kernel
theorem dX1_put_24 : decode cX1_put 24 = .ok (.dup, 1) := by decide +kernel
theorem dX1_put_25 : decode cX1_put 25 = .ok (.getfield 32, 3) := by decide +kernel
theorem dX1_put_28 : decode cX1_put 28 = .ok (.iload_n 2, 1) := by decide +kernel
theorem dX1_put_29 : decode cX1_put 29 = .ok (.ifCond .eq 7, 3) := by decide +kernel
theorem dX1_put_32 : decode cX1_put 32 = .ok (.iconst 1, 1) := by decide +kernel
theorem dX1_put_33 : decode cX1_put 33 = .ok (.goto 4, 3) := by decide +kernel
theorem dX1_put_36 : decode cX1_put 36 = .ok (.iconst 0, 1) := by decide +kernel
theorem dX1_put_37 : decode cX1_put 37 = .ok (.iadd, 1) := by decide +kernel
theorem dX1_put_38 : decode cX1_put 38 = .ok (.putfield 32, 3) := by decide +kernel
theorem dX1_put_41 : decode cX1_put 41 = .ok (.return_, 1) := by decide +kernel
theorem dX1_fountNumber_0 : decode cX1_fountNumber 0 = .ok (.aload_n 0, 1) := by decide +kernel
theorem dX1_fountNumber_1 : decode cX1_fountNumber 1 = .ok (.getfield 28, 3) := by decide +kernel
theorem dX1_fountNumber_4 : decode cX1_fountNumber 4 = .ok (.ifnonnull 7, 3) := by decide +kernel
theorem dX1_fountNumber_7 : decode cX1_fountNumber 7 = .ok (.iconst (-1), 1) := by decide +kernel
theorem dX1_fountNumber_8 : decode cX1_fountNumber 8 = .ok (.goto 10, 3) := by decide +kernel
theorem dX1_fountNumber_11 : decode cX1_fountNumber 11 = .ok (.aload_n 0, 1) := by decide +kernel
theorem dX1_fountNumber_12 : decode cX1_fountNumber 12 = .ok (.getfield 28, 3) := by decide +kernel
theorem dX1_fountNumber_15 : decode cX1_fountNumber 15 = .ok (.getfield 38, 3) := by decide +kernel
theorem dX1_fountNumber_18 : decode cX1_fountNumber 18 = .ok (.ireturn, 1) := by decide +kernel
theorem dX1_sizeAsLaid_0 : decode cX1_sizeAsLaid 0 = .ok (.aload_n 0, 1) := by decide +kernel
theorem dX1_sizeAsLaid_1 : decode cX1_sizeAsLaid 1 = .ok (.getfield 28, 3) := by decide +kernel
theorem dX1_sizeAsLaid_4 : decode cX1_sizeAsLaid 4 = .ok (.ifnonnull 7, 3) := by decide +kernel
theorem dX1_sizeAsLaid_7 : decode cX1_sizeAsLaid 7 = .ok (.iconst 0, 1) := by decide +kernel
theorem dX1_sizeAsLaid_8 : decode cX1_sizeAsLaid 8 = .ok (.goto 15, 3) := by decide +kernel
theorem dX1_sizeAsLaid_11 : decode cX1_sizeAsLaid 11 = .ok (.aload_n 0, 1) := by decide +kernel
theorem dX1_sizeAsLaid_12 : decode cX1_sizeAsLaid 12 = .ok (.getfield 28, 3) := by decide +kernel
theorem dX1_sizeAsLaid_15 : decode cX1_sizeAsLaid 15 = .ok (.getfield 43, 3) := by decide +kernel
theorem dX1_sizeAsLaid_18 : decode cX1_sizeAsLaid 18 = .ok (.aload_n 0, 1) := by decide +kernel
theorem dX1_sizeAsLaid_19 : decode cX1_sizeAsLaid 19 = .ok (.getfield 18, 3) := by decide +kernel
theorem dX1_sizeAsLaid_22 : decode cX1_sizeAsLaid 22 = .ok (.imul, 1) := by decide +kernel
theorem dX1_sizeAsLaid_23 : decode cX1_sizeAsLaid 23 = .ok (.ireturn, 1) := by decide +kernel
theorem dX1_takeOut_0 : decode cX1_takeOut 0 = .ok (.aload_n 0, 1) := by decide +kernel
theorem dX1_takeOut_1 : decode cX1_takeOut 1 = .ok (.getfield 28, 3) := by decide +kernel
theorem dX1_takeOut_4 : decode cX1_takeOut 4 = .ok (.ifnonnull 4, 3) := by decide +kernel
theorem dX1_takeOut_7 : decode cX1_takeOut 7 = .ok (.return_, 1) := by decide +kernel
theorem dX1_takeOut_8 : decode cX1_takeOut 8 = .ok (.iconst 0, 1) := by decide +kernel
theorem dX1_takeOut_9 : decode cX1_takeOut 9 = .ok (.istore_n 1, 1) := by decide +kernel
theorem dX1_takeOut_10 : decode cX1_takeOut 10 = .ok (.iload_n 1, 1) := by decide +kernel
theorem dX1_takeOut_11 : decode cX1_takeOut 11 = .ok (.bipush 10, 2) := by decide +kernel
theorem dX1_takeOut_13 : decode cX1_takeOut 13 = .ok (.if_icmp .ge 27, 3) := by decide +kernel
theorem dX1_takeOut_16 : decode cX1_takeOut 16 = .ok (.aload_n 0, 1) := by decide +kernel
theorem dX1_takeOut_17 : decode cX1_takeOut 17 = .ok (.getfield 28, 3) := by decide +kernel
theorem dX1_takeOut_20 : decode cX1_takeOut 20 = .ok (.getfield 46, 3) := by decide +kernel
theorem dX1_takeOut_23 : decode cX1_takeOut 23 = .ok (.iload_n 1, 1) := by decide +kernel
theorem dX1_takeOut_24 : decode cX1_takeOut 24 = .ok (.dup2, 1) := by decide +kernel
theorem dX1_takeOut_25 : decode cX1_takeOut 25 = .ok (.iaload, 1) := by decide +kernel
theorem dX1_takeOut_26 : decode cX1_takeOut 26 = .ok (.aload_n 0, 1) := by decide +kernel
theorem dX1_takeOut_27 : decode cX1_takeOut 27 = .ok (.getfield 15, 3) := by decide +kernel
theorem dX1_takeOut_30 : decode cX1_takeOut 30 = .ok (.iload_n 1, 1) := by decide +kernel
theorem dX1_takeOut_31 : decode cX1_takeOut 31 = .ok (.iaload, 1) := by decide +kernel
theorem dX1_takeOut_32 : decode cX1_takeOut 32 = .ok (.isub, 1) := by decide +kernel
theorem dX1_takeOut_33 : decode cX1_takeOut 33 = .ok (.iastore, 1) := by decide +kernel
theorem dX1_takeOut_34 : decode cX1_takeOut 34 = .ok (.iinc 1 1, 3) := by decide +kernel
theorem dX1_takeOut_37 : decode cX1_takeOut 37 = .ok (.goto (-27), 3) := by decide +kernel
theorem dX1_takeOut_40 : decode cX1_takeOut 40 = .ok (.return_, 1) := by decide +kernel
theorem dX1_putBack_0 : decode cX1_putBack 0 = .ok (.aload_n 0, 1) := by decide +kernel
theorem dX1_putBack_1 : decode cX1_putBack 1 = .ok (.getfield 28, 3) := by decide +kernel
theorem dX1_putBack_4 : decode cX1_putBack 4 = .ok (.ifnonnull 4, 3) := by decide +kernel
theorem dX1_putBack_7 : decode cX1_putBack 7 = .ok (.return_, 1) := by decide +kernel
theorem dX1_putBack_8 : decode cX1_putBack 8 = .ok (.iconst 0, 1) := by decide +kernel
theorem dX1_putBack_9 : decode cX1_putBack 9 = .ok (.istore_n 1, 1) := by decide +kernel
theorem dX1_putBack_10 : decode cX1_putBack 10 = .ok (.iload_n 1, 1) := by decide +kernel
theorem dX1_putBack_11 : decode cX1_putBack 11 = .ok (.bipush 10, 2) := by decide +kernel
theorem dX1_putBack_13 : decode cX1_putBack 13 = .ok (.if_icmp .ge 27, 3) := by decide +kernel
theorem dX1_putBack_16 : decode cX1_putBack 16 = .ok (.aload_n 0, 1) := by decide +kernel
theorem dX1_putBack_17 : decode cX1_putBack 17 = .ok (.getfield 28, 3) := by decide +kernel
theorem dX1_putBack_20 : decode cX1_putBack 20 = .ok (.getfield 46, 3) := by decide +kernel
theorem dX1_putBack_23 : decode cX1_putBack 23 = .ok (.iload_n 1, 1) := by decide +kernel
theorem dX1_putBack_24 : decode cX1_putBack 24 = .ok (.dup2, 1) := by decide +kernel
theorem dX1_putBack_25 : decode cX1_putBack 25 = .ok (.iaload, 1) := by decide +kernel
theorem dX1_putBack_26 : decode cX1_putBack 26 = .ok (.aload_n 0, 1) := by decide +kernel
theorem dX1_putBack_27 : decode cX1_putBack 27 = .ok (.getfield 15, 3) := by decide +kernel
theorem dX1_putBack_30 : decode cX1_putBack 30 = .ok (.iload_n 1, 1) := by decide +kernel
theorem dX1_putBack_31 : decode cX1_putBack 31 = .ok (.iaload, 1) := by decide +kernel
theorem dX1_putBack_32 : decode cX1_putBack 32 = .ok (.iadd, 1) := by decide +kernel
theorem dX1_putBack_33 : decode cX1_putBack 33 = .ok (.iastore, 1) := by decide +kernel
theorem dX1_putBack_34 : decode cX1_putBack 34 = .ok (.iinc 1 1, 3) := by decide +kernel
theorem dX1_putBack_37 : decode cX1_putBack 37 = .ok (.goto (-27), 3) := by decide +kernel
theorem dX1_putBack_40 : decode cX1_putBack 40 = .ok (.return_, 1) := by decide +kernel
theorem dX1_wearBy_0 : decode cX1_wearBy 0 = .ok (.aload_n 0, 1) := by decide +kernel
theorem dX1_wearBy_1 : decode cX1_wearBy 1 = .ok (.getfield 28, 3) := by decide +kernel
theorem dX1_wearBy_4 : decode cX1_wearBy 4 = .ok (.ifnonnull 4, 3) := by decide +kernel
theorem dX1_wearBy_7 : decode cX1_wearBy 7 = .ok (.return_, 1) := by decide +kernel
theorem dX1_wearBy_8 : decode cX1_wearBy 8 = .ok (.iconst 0, 1) := by decide +kernel
theorem dX1_wearBy_9 : decode cX1_wearBy 9 = .ok (.istore_n 2, 1) := by decide +kernel
theorem dX1_wearBy_10 : decode cX1_wearBy 10 = .ok (.iload_n 2, 1) := by decide +kernel
theorem dX1_wearBy_11 : decode cX1_wearBy 11 = .ok (.bipush 10, 2) := by decide +kernel
theorem dX1_wearBy_13 : decode cX1_wearBy 13 = .ok (.if_icmp .ge 29, 3) := by decide +kernel
theorem dX1_wearBy_16 : decode cX1_wearBy 16 = .ok (.aload_n 0, 1) := by decide +kernel
theorem dX1_wearBy_17 : decode cX1_wearBy 17 = .ok (.getfield 28, 3) := by decide +kernel
theorem dX1_wearBy_20 : decode cX1_wearBy 20 = .ok (.getfield 49, 3) := by decide +kernel
theorem dX1_wearBy_23 : decode cX1_wearBy 23 = .ok (.iload_n 2, 1) := by decide +kernel
theorem dX1_wearBy_24 : decode cX1_wearBy 24 = .ok (.dup2, 1) := by decide +kernel
theorem dX1_wearBy_25 : decode cX1_wearBy 25 = .ok (.iaload, 1) := by decide +kernel
theorem dX1_wearBy_26 : decode cX1_wearBy 26 = .ok (.aload_n 0, 1) := by decide +kernel
theorem dX1_wearBy_27 : decode cX1_wearBy 27 = .ok (.getfield 15, 3) := by decide +kernel
theorem dX1_wearBy_30 : decode cX1_wearBy 30 = .ok (.iload_n 2, 1) := by decide +kernel
theorem dX1_wearBy_31 : decode cX1_wearBy 31 = .ok (.iaload, 1) := by decide +kernel
theorem dX1_wearBy_32 : decode cX1_wearBy 32 = .ok (.iload_n 1, 1) := by decide +kernel
theorem dX1_wearBy_33 : decode cX1_wearBy 33 = .ok (.imul, 1) := by decide +kernel
theorem dX1_wearBy_34 : decode cX1_wearBy 34 = .ok (.iadd, 1) := by decide +kernel
theorem dX1_wearBy_35 : decode cX1_wearBy 35 = .ok (.iastore, 1) := by decide +kernel
theorem dX1_wearBy_36 : decode cX1_wearBy 36 = .ok (.iinc 2 1, 3) := by decide +kernel
theorem dX1_wearBy_39 : decode cX1_wearBy 39 = .ok (.goto (-29), 3) := by decide +kernel
theorem dX1_wearBy_42 : decode cX1_wearBy 42 = .ok (.return_, 1) := by decide +kernel
theorem dX2_init_0 : decode cX2_init 0 = .ok (.aload_n 0, 1) := by decide +kernel
theorem dX2_init_1 : decode cX2_init 1 = .ok (.invokespecial 1, 3) := by decide +kernel
theorem dX2_init_4 : decode cX2_init 4 = .ok (.aload_n 0, 1) := by decide +kernel
theorem dX2_init_5 : decode cX2_init 5 = .ok (.new 7, 3) := by decide +kernel
theorem dX2_init_8 : decode cX2_init 8 = .ok (.dup, 1) := by decide +kernel
theorem dX2_init_9 : decode cX2_init 9 = .ok (.invokespecial 9, 3) := by decide +kernel
theorem dX2_init_12 : decode cX2_init 12 = .ok (.putfield 10, 3) := by decide +kernel
theorem dX2_init_15 : decode cX2_init 15 = .ok (.aload_n 0, 1) := by decide +kernel
theorem dX2_init_16 : decode cX2_init 16 = .ok (.iload_n 1, 1) := by decide +kernel
theorem dX2_init_17 : decode cX2_init 17 = .ok (.putfield 16, 3) := by decide +kernel
theorem dX2_init_20 : decode cX2_init 20 = .ok (.aload_n 0, 1) := by decide +kernel
theorem dX2_init_21 : decode cX2_init 21 = .ok (.iload_n 2, 1) := by decide +kernel
theorem dX2_init_22 : decode cX2_init 22 = .ok (.putfield 20, 3) := by decide +kernel
theorem dX2_init_25 : decode cX2_init 25 = .ok (.return_, 1) := by decide +kernel
theorem dX2_isReady_0 : decode cX2_isReady 0 = .ok (.aload_n 0, 1) := by decide +kernel
theorem dX2_isReady_1 : decode cX2_isReady 1 = .ok (.getfield 23, 3) := by decide +kernel
theorem dX2_isReady_4 : decode cX2_isReady 4 = .ok (.ifCond .ne 17, 3) := by decide +kernel
theorem dX2_isReady_7 : decode cX2_isReady 7 = .ok (.aload_n 0, 1) := by decide +kernel
theorem dX2_isReady_8 : decode cX2_isReady 8 = .ok (.getfield 10, 3) := by decide +kernel
theorem dX2_isReady_11 : decode cX2_isReady 11 = .ok (.invokevirtual 27, 3) := by decide +kernel
theorem dX2_isReady_14 : decode cX2_isReady 14 = .ok (.ifCond .ne 7, 3) := by decide +kernel
theorem dX2_isReady_17 : decode cX2_isReady 17 = .ok (.iconst 1, 1) := by decide +kernel
theorem dX2_isReady_18 : decode cX2_isReady 18 = .ok (.goto 4, 3) := by decide +kernel
theorem dX2_isReady_21 : decode cX2_isReady 21 = .ok (.iconst 0, 1) := by decide +kernel
theorem dX2_isReady_22 : decode cX2_isReady 22 = .ok (.ireturn, 1) := by decide +kernel
theorem dX2_letters_0 : decode cX2_letters 0 = .ok (.iconst 0, 1) := by decide +kernel
theorem dX2_letters_1 : decode cX2_letters 1 = .ok (.istore_n 1, 1) := by decide +kernel
theorem dX2_letters_2 : decode cX2_letters 2 = .ok (.iconst 0, 1) := by decide +kernel
theorem dX2_letters_3 : decode cX2_letters 3 = .ok (.istore_n 2, 1) := by decide +kernel
theorem dX2_letters_4 : decode cX2_letters 4 = .ok (.iload_n 2, 1) := by decide +kernel
theorem dX2_letters_5 : decode cX2_letters 5 = .ok (.aload_n 0, 1) := by decide +kernel
theorem dX2_letters_6 : decode cX2_letters 6 = .ok (.getfield 10, 3) := by decide +kernel
theorem dX2_letters_9 : decode cX2_letters 9 = .ok (.invokevirtual 31, 3) := by decide +kernel
theorem dX2_letters_12 : decode cX2_letters 12 = .ok (.if_icmp .ge 26, 3) := by decide +kernel
theorem dX2_letters_15 : decode cX2_letters 15 = .ok (.iload_n 1, 1) := by decide +kernel
theorem dX2_letters_16 : decode cX2_letters 16 = .ok (.aload_n 0, 1) := by decide +kernel
theorem dX2_letters_17 : decode cX2_letters 17 = .ok (.getfield 10, 3) := by decide +kernel
theorem dX2_letters_20 : decode cX2_letters 20 = .ok (.iload_n 2, 1) := by decide +kernel
theorem dX2_letters_21 : decode cX2_letters 21 = .ok (.invokevirtual 35, 3) := by decide +kernel
theorem dX2_letters_24 : decode cX2_letters 24 = .ok (.checkcast 39, 3) := by decide +kernel
theorem dX2_letters_27 : decode cX2_letters 27 = .ok (.getfield 41, 3) := by decide +kernel
theorem dX2_letters_30 : decode cX2_letters 30 = .ok (.iadd, 1) := by decide +kernel
theorem dX2_letters_31 : decode cX2_letters 31 = .ok (.istore_n 1, 1) := by decide +kernel
theorem dX2_letters_32 : decode cX2_letters 32 = .ok (.iinc 2 1, 3) := by decide +kernel
theorem dX2_letters_35 : decode cX2_letters 35 = .ok (.goto (-31), 3) := by decide +kernel
theorem dX2_letters_38 : decode cX2_letters 38 = .ok (.iload_n 1, 1) := by decide +kernel
theorem dX2_letters_39 : decode cX2_letters 39 = .ok (.ireturn, 1) := by decide +kernel
theorem dX2_flawsAsLaid_0 : decode cX2_flawsAsLaid 0 = .ok (.iconst 0, 1) := by decide +kernel
theorem dX2_flawsAsLaid_1 : decode cX2_flawsAsLaid 1 = .ok (.istore_n 1, 1) := by decide +kernel
theorem dX2_flawsAsLaid_2 : decode cX2_flawsAsLaid 2 = .ok (.iconst 0, 1) := by decide +kernel
theorem dX2_flawsAsLaid_3 : decode cX2_flawsAsLaid 3 = .ok (.istore_n 2, 1) := by decide +kernel
theorem dX2_flawsAsLaid_4 : decode cX2_flawsAsLaid 4 = .ok (.iload_n 2, 1) := by decide +kernel
theorem dX2_flawsAsLaid_5 : decode cX2_flawsAsLaid 5 = .ok (.aload_n 0, 1) := by decide +kernel
theorem dX2_flawsAsLaid_6 : decode cX2_flawsAsLaid 6 = .ok (.getfield 10, 3) := by decide +kernel
theorem dX2_flawsAsLaid_9 : decode cX2_flawsAsLaid 9 = .ok (.invokevirtual 31, 3) := by decide +kernel
theorem dX2_flawsAsLaid_12 : decode cX2_flawsAsLaid 12 = .ok (.if_icmp .ge 26, 3) := by decide +kernel
theorem dX2_flawsAsLaid_15 : decode cX2_flawsAsLaid 15 = .ok (.iload_n 1, 1) := by decide +kernel
theorem dX2_flawsAsLaid_16 : decode cX2_flawsAsLaid 16 = .ok (.aload_n 0, 1) := by decide +kernel
theorem dX2_flawsAsLaid_17 : decode cX2_flawsAsLaid 17 = .ok (.getfield 10, 3) := by decide +kernel
theorem dX2_flawsAsLaid_20 : decode cX2_flawsAsLaid 20 = .ok (.iload_n 2, 1) := by decide +kernel
theorem dX2_flawsAsLaid_21 : decode cX2_flawsAsLaid 21 = .ok (.invokevirtual 35, 3) := by decide +kernel
theorem dX2_flawsAsLaid_24 : decode cX2_flawsAsLaid 24 = .ok (.checkcast 39, 3) := by decide +kernel
theorem dX2_flawsAsLaid_27 : decode cX2_flawsAsLaid 27 = .ok (.getfield 43, 3) := by decide +kernel
theorem dX2_flawsAsLaid_30 : decode cX2_flawsAsLaid 30 = .ok (.iadd, 1) := by decide +kernel
theorem dX2_flawsAsLaid_31 : decode cX2_flawsAsLaid 31 = .ok (.istore_n 1, 1) := by decide +kernel
theorem dX2_flawsAsLaid_32 : decode cX2_flawsAsLaid 32 = .ok (.iinc 2 1, 3) := by decide +kernel
theorem dX2_flawsAsLaid_35 : decode cX2_flawsAsLaid 35 = .ok (.goto (-31), 3) := by decide +kernel
theorem dX2_flawsAsLaid_38 : decode cX2_flawsAsLaid 38 = .ok (.iload_n 1, 1) := by decide +kernel
theorem dX2_flawsAsLaid_39 : decode cX2_flawsAsLaid 39 = .ok (.ireturn, 1) := by decide +kernel
theorem dX2_sizeAsLaid_0 : decode cX2_sizeAsLaid 0 = .ok (.iconst 0, 1) := by decide +kernel
theorem dX2_sizeAsLaid_1 : decode cX2_sizeAsLaid 1 = .ok (.istore_n 1, 1) := by decide +kernel
theorem dX2_sizeAsLaid_2 : decode cX2_sizeAsLaid 2 = .ok (.iconst 0, 1) := by decide +kernel
theorem dX2_sizeAsLaid_3 : decode cX2_sizeAsLaid 3 = .ok (.istore_n 2, 1) := by decide +kernel
theorem dX2_sizeAsLaid_4 : decode cX2_sizeAsLaid 4 = .ok (.iload_n 2, 1) := by decide +kernel
theorem dX2_sizeAsLaid_5 : decode cX2_sizeAsLaid 5 = .ok (.aload_n 0, 1) := by decide +kernel
theorem dX2_sizeAsLaid_6 : decode cX2_sizeAsLaid 6 = .ok (.getfield 10, 3) := by decide +kernel
theorem dX2_sizeAsLaid_9 : decode cX2_sizeAsLaid 9 = .ok (.invokevirtual 31, 3) := by decide +kernel
theorem dX2_sizeAsLaid_12 : decode cX2_sizeAsLaid 12 = .ok (.if_icmp .ge 26, 3) := by decide +kernel
theorem dX2_sizeAsLaid_15 : decode cX2_sizeAsLaid 15 = .ok (.iload_n 1, 1) := by decide +kernel
theorem dX2_sizeAsLaid_16 : decode cX2_sizeAsLaid 16 = .ok (.aload_n 0, 1) := by decide +kernel
theorem dX2_sizeAsLaid_17 : decode cX2_sizeAsLaid 17 = .ok (.getfield 10, 3) := by decide +kernel
theorem dX2_sizeAsLaid_20 : decode cX2_sizeAsLaid 20 = .ok (.iload_n 2, 1) := by decide +kernel
theorem dX2_sizeAsLaid_21 : decode cX2_sizeAsLaid 21 = .ok (.invokevirtual 35, 3) := by decide +kernel
theorem dX2_sizeAsLaid_24 : decode cX2_sizeAsLaid 24 = .ok (.checkcast 39, 3) := by decide +kernel
theorem dX2_sizeAsLaid_27 : decode cX2_sizeAsLaid 27 = .ok (.invokevirtual 46, 3) := by decide +kernel
theorem dX2_sizeAsLaid_30 : decode cX2_sizeAsLaid 30 = .ok (.iadd, 1) := by decide +kernel
theorem dX2_sizeAsLaid_31 : decode cX2_sizeAsLaid 31 = .ok (.istore_n 1, 1) := by decide +kernel
theorem dX2_sizeAsLaid_32 : decode cX2_sizeAsLaid 32 = .ok (.iinc 2 1, 3) := by decide +kernel
theorem dX2_sizeAsLaid_35 : decode cX2_sizeAsLaid 35 = .ok (.goto (-31), 3) := by decide +kernel
theorem dX2_sizeAsLaid_38 : decode cX2_sizeAsLaid 38 = .ok (.iload_n 1, 1) := by decide +kernel
theorem dX2_sizeAsLaid_39 : decode cX2_sizeAsLaid 39 = .ok (.ireturn, 1) := by decide +kernel
theorem dX2_blocksLaid_0 : decode cX2_blocksLaid 0 = .ok (.iconst 0, 1) := by decide +kernel
theorem dX2_blocksLaid_1 : decode cX2_blocksLaid 1 = .ok (.istore_n 3, 1) := by decide +kernel
theorem dX2_blocksLaid_2 : decode cX2_blocksLaid 2 = .ok (.iconst 0, 1) := by decide +kernel
theorem dX2_blocksLaid_3 : decode cX2_blocksLaid 3 = .ok (.istore 4, 2) := by decide +kernel
theorem dX2_blocksLaid_5 : decode cX2_blocksLaid 5 = .ok (.iload 4, 2) := by decide +kernel
theorem dX2_blocksLaid_7 : decode cX2_blocksLaid 7 = .ok (.aload_n 0, 1) := by decide +kernel
theorem dX2_blocksLaid_8 : decode cX2_blocksLaid 8 = .ok (.getfield 10, 3) := by decide +kernel
theorem dX2_blocksLaid_11 : decode cX2_blocksLaid 11 = .ok (.invokevirtual 31, 3) := by decide +kernel
theorem dX2_blocksLaid_14 : decode cX2_blocksLaid 14 = .ok (.if_icmp .ge 42, 3) := by decide +kernel
theorem dX2_blocksLaid_17 : decode cX2_blocksLaid 17 = .ok (.aload_n 0, 1) := by decide +kernel
theorem dX2_blocksLaid_18 : decode cX2_blocksLaid 18 = .ok (.getfield 10, 3) := by decide +kernel
theorem dX2_blocksLaid_21 : decode cX2_blocksLaid 21 = .ok (.iload 4, 2) := by decide +kernel
theorem dX2_blocksLaid_23 : decode cX2_blocksLaid 23 = .ok (.invokevirtual 35, 3) := by decide +kernel
theorem dX2_blocksLaid_26 : decode cX2_blocksLaid 26 = .ok (.checkcast 39, 3) := by decide +kernel
theorem dX2_blocksLaid_29 : decode cX2_blocksLaid 29 = .ok (.astore 5, 2) := by decide +kernel
theorem dX2_blocksLaid_31 : decode cX2_blocksLaid 31 = .ok (.aload 5, 2) := by decide +kernel
theorem dX2_blocksLaid_33 : decode cX2_blocksLaid 33 = .ok (.getfield 49, 3) := by decide +kernel
theorem dX2_blocksLaid_36 : decode cX2_blocksLaid 36 = .ok (.aload_n 1, 1) := by decide +kernel
theorem dX2_blocksLaid_37 : decode cX2_blocksLaid 37 = .ok (.if_acmp .ne 13, 3) := by decide +kernel
theorem dX2_blocksLaid_40 : decode cX2_blocksLaid 40 = .ok (.iload_n 3, 1) := by decide +kernel
theorem dX2_blocksLaid_41 : decode cX2_blocksLaid 41 = .ok (.aload 5, 2) := by decide +kernel
theorem dX2_blocksLaid_43 : decode cX2_blocksLaid 43 = .ok (.getfield 53, 3) := by decide +kernel
theorem dX2_blocksLaid_46 : decode cX2_blocksLaid 46 = .ok (.iload_n 2, 1) := by decide +kernel
theorem dX2_blocksLaid_47 : decode cX2_blocksLaid 47 = .ok (.iaload, 1) := by decide +kernel
theorem dX2_blocksLaid_48 : decode cX2_blocksLaid 48 = .ok (.iadd, 1) := by decide +kernel
theorem dX2_blocksLaid_49 : decode cX2_blocksLaid 49 = .ok (.istore_n 3, 1) := by decide +kernel
theorem dX2_blocksLaid_50 : decode cX2_blocksLaid 50 = .ok (.iinc 4 1, 3) := by decide +kernel
theorem dX2_blocksLaid_53 : decode cX2_blocksLaid 53 = .ok (.goto (-48), 3) := by decide +kernel
theorem dX2_blocksLaid_56 : decode cX2_blocksLaid 56 = .ok (.iload_n 3, 1) := by decide +kernel
theorem dX2_blocksLaid_57 : decode cX2_blocksLaid 57 = .ok (.ireturn, 1) := by decide +kernel
theorem dX3_init_0 : decode cX3_init 0 = .ok (.aload_n 0, 1) := by decide +kernel
theorem dX3_init_1 : decode cX3_init 1 = .ok (.invokespecial 1, 3) := by decide +kernel
theorem dX3_init_4 : decode cX3_init 4 = .ok (.aload_n 0, 1) := by decide +kernel
theorem dX3_init_5 : decode cX3_init 5 = .ok (.new 7, 3) := by decide +kernel
theorem dX3_init_8 : decode cX3_init 8 = .ok (.dup, 1) := by decide +kernel
theorem dX3_init_9 : decode cX3_init 9 = .ok (.invokespecial 9, 3) := by decide +kernel
theorem dX3_init_12 : decode cX3_init 12 = .ok (.putfield 10, 3) := by decide +kernel
theorem dX3_init_15 : decode cX3_init 15 = .ok (.aload_n 0, 1) := by decide +kernel
theorem dX3_init_16 : decode cX3_init 16 = .ok (.new 7, 3) := by decide +kernel
theorem dX3_init_19 : decode cX3_init 19 = .ok (.dup, 1) := by decide +kernel
theorem dX3_init_20 : decode cX3_init 20 = .ok (.invokespecial 9, 3) := by decide +kernel
theorem dX3_init_23 : decode cX3_init 23 = .ok (.putfield 16, 3) := by decide +kernel
theorem dX3_init_26 : decode cX3_init 26 = .ok (.aload_n 0, 1) := by decide +kernel
theorem dX3_init_27 : decode cX3_init 27 = .ok (.bipush 10, 2) := by decide +kernel
theorem dX3_init_29 : decode cX3_init 29 = .ok (.newarray .int, 2) := by decide +kernel
theorem dX3_init_31 : decode cX3_init 31 = .ok (.putfield 19, 3) := by decide +kernel
theorem dX3_init_34 : decode cX3_init 34 = .ok (.aload_n 0, 1) := by decide +kernel
theorem dX3_init_35 : decode cX3_init 35 = .ok (.iconst 4, 1) := by decide +kernel
theorem dX3_init_36 : decode cX3_init 36 = .ok (.newarray .int, 2) := by decide +kernel
theorem dX3_init_38 : decode cX3_init 38 = .ok (.putfield 23, 3) := by decide +kernel
theorem dX3_init_41 : decode cX3_init 41 = .ok (.aload_n 0, 1) := by decide +kernel
theorem dX3_init_42 : decode cX3_init 42 = .ok (.iconst 4, 1) := by decide +kernel
theorem dX3_init_43 : decode cX3_init 43 = .ok (.newarray .int, 2) := by decide +kernel
theorem dX3_init_45 : decode cX3_init 45 = .ok (.putfield 26, 3) := by decide +kernel
theorem dX3_init_48 : decode cX3_init 48 = .ok (.aload_n 0, 1) := by decide +kernel
theorem dX3_init_49 : decode cX3_init 49 = .ok (.getfield 19, 3) := by decide +kernel
theorem dX3_init_52 : decode cX3_init 52 = .ok (.iconst (-1), 1) := by decide +kernel
theorem dX3_init_53 : decode cX3_init 53 = .ok (.invokestatic 29, 3) := by decide +kernel
theorem dX3_init_56 : decode cX3_init 56 = .ok (.aload_n 0, 1) := by decide +kernel
theorem dX3_init_57 : decode cX3_init 57 = .ok (.getfield 23, 3) := by decide +kernel
theorem dX3_init_60 : decode cX3_init 60 = .ok (.iconst 3, 1) := by decide +kernel
theorem dX3_init_61 : decode cX3_init 61 = .ok (.invokestatic 29, 3) := by decide +kernel
theorem dX3_init_64 : decode cX3_init 64 = .ok (.aload_n 0, 1) := by decide +kernel
theorem dX3_init_65 : decode cX3_init 65 = .ok (.getfield 26, 3) := by decide +kernel
theorem dX3_init_68 : decode cX3_init 68 = .ok (.iconst 5, 1) := by decide +kernel
theorem dX3_init_69 : decode cX3_init 69 = .ok (.invokestatic 29, 3) := by decide +kernel
theorem dX3_init_72 : decode cX3_init 72 = .ok (.return_, 1) := by decide +kernel
theorem dX3_fount_0 : decode cX3_fount 0 = .ok (.iload_n 1, 1) := by decide +kernel
theorem dX3_fount_1 : decode cX3_fount 1 = .ok (.iconst 1, 1) := by decide +kernel
theorem dX3_fount_2 : decode cX3_fount 2 = .ok (.if_icmp .lt 9, 3) := by decide +kernel
theorem dX3_fount_5 : decode cX3_fount 5 = .ok (.iload_n 1, 1) := by decide +kernel
theorem dX3_fount_6 : decode cX3_fount 6 = .ok (.bipush 20, 2) := by decide +kernel
theorem dX3_fount_8 : decode cX3_fount 8 = .ok (.if_icmp .le 13, 3) := by decide +kernel
theorem dX3_fount_11 : decode cX3_fount 11 = .ok (.new 35, 3) := by decide +kernel
theorem dX3_fount_14 : decode cX3_fount 14 = .ok (.dup, 1) := by decide +kernel
theorem dX3_fount_15 : decode cX3_fount 15 = .ok (.ldc 37, 2) := by decide +kernel
theorem dX3_fount_17 : decode cX3_fount 17 = .ok (.invokespecial 39, 3) := by decide +kernel
theorem dX3_fount_20 : decode cX3_fount 20 = .ok (.athrow, 1) := by decide +kernel
theorem dX3_fount_21 : decode cX3_fount 21 = .ok (.aload_n 0, 1) := by decide +kernel
theorem dX3_fount_22 : decode cX3_fount 22 = .ok (.getfield 10, 3) := by decide +kernel
theorem dX3_fount_25 : decode cX3_fount 25 = .ok (.invokevirtual 42, 3) := by decide +kernel
theorem dX3_fount_28 : decode cX3_fount 28 = .ok (.iconst 5, 1) := by decide +kernel
theorem dX3_fount_29 : decode cX3_fount 29 = .ok (.if_icmp .lt 13, 3) := by decide +kernel
theorem dX3_fount_32 : decode cX3_fount 32 = .ok (.new 46, 3) := by decide +kernel
theorem dX3_fount_35 : decode cX3_fount 35 = .ok (.dup, 1) := by decide +kernel
theorem dX3_fount_36 : decode cX3_fount 36 = .ok (.ldc 48, 2) := by decide +kernel
theorem dX3_fount_38 : decode cX3_fount 38 = .ok (.invokespecial 50, 3) := by decide +kernel
theorem dX3_fount_41 : decode cX3_fount 41 = .ok (.athrow, 1) := by decide +kernel
theorem dX3_fount_42 : decode cX3_fount 42 = .ok (.aload_n 0, 1) := by decide +kernel
theorem dX3_fount_43 : decode cX3_fount 43 = .ok (.getfield 10, 3) := by decide +kernel
theorem dX3_fount_46 : decode cX3_fount 46 = .ok (.invokevirtual 42, 3) := by decide +kernel
theorem dX3_fount_49 : decode cX3_fount 49 = .ok (.istore_n 2, 1) := by decide +kernel
theorem dX3_fount_50 : decode cX3_fount 50 = .ok (.aload_n 0, 1) := by decide +kernel
theorem dX3_fount_51 : decode cX3_fount 51 = .ok (.getfield 10, 3) := by decide +kernel
theorem dX3_fount_54 : decode cX3_fount 54 = .ok (.new 51, 3) := by decide +kernel
theorem dX3_fount_57 : decode cX3_fount 57 = .ok (.dup, 1) := by decide +kernel
theorem dX3_fount_58 : decode cX3_fount 58 = .ok (.iload_n 2, 1) := by decide +kernel
theorem dX3_fount_59 : decode cX3_fount 59 = .ok (.iload_n 1, 1) := by decide +kernel
theorem dX3_fount_60 : decode cX3_fount 60 = .ok (.invokespecial 53, 3) := by decide +kernel
theorem dX3_fount_63 : decode cX3_fount 63 = .ok (.invokevirtual 56, 3) := by decide +kernel
theorem dX3_fount_66 : decode cX3_fount 66 = .ok (.pop, 1) := by decide +kernel
theorem dX3_fount_67 : decode cX3_fount 67 = .ok (.iload_n 2, 1) := by decide +kernel
theorem dX3_fount_68 : decode cX3_fount 68 = .ok (.ireturn, 1) := by decide +kernel
theorem dX3_buy_0 : decode cX3_buy 0 = .ok (.aload_n 0, 1) := by decide +kernel
theorem dX3_buy_1 : decode cX3_buy 1 = .ok (.iload_n 1, 1) := by decide +kernel
theorem dX3_buy_2 : decode cX3_buy 2 = .ok (.invokevirtual 60, 3) := by decide +kernel
theorem dX3_buy_5 : decode cX3_buy 5 = .ok (.ifCond .eq 10, 3) := by decide +kernel
theorem dX3_buy_8 : decode cX3_buy 8 = .ok (.iload_n 2, 1) := by decide +kernel
theorem dX3_buy_9 : decode cX3_buy 9 = .ok (.invokestatic 64, 3) := by decide +kernel
theorem dX3_buy_12 : decode cX3_buy 12 = .ok (.ifCond .ne 13, 3) := by decide +kernel
theorem dX3_buy_15 : decode cX3_buy 15 = .ok (.new 67, 3) := by decide +kernel
theorem dX3_buy_18 : decode cX3_buy 18 = .ok (.dup, 1) := by decide +kernel
theorem dX3_buy_19 : decode cX3_buy 19 = .ok (.ldc 69, 2) := by decide +kernel
theorem dX3_buy_21 : decode cX3_buy 21 = .ok (.invokespecial 71, 3) := by decide +kernel
theorem dX3_buy_24 : decode cX3_buy 24 = .ok (.athrow, 1) := by decide +kernel
theorem dX3_buy_25 : decode cX3_buy 25 = .ok (.iload_n 3, 1) := by decide +kernel
theorem dX3_buy_26 : decode cX3_buy 26 = .ok (.iconst 1, 1) := by decide +kernel
theorem dX3_buy_27 : decode cX3_buy 27 = .ok (.if_icmp .lt 9, 3) := by decide +kernel
theorem dX3_buy_30 : decode cX3_buy 30 = .ok (.iload_n 3, 1) := by decide +kernel
theorem dX3_buy_31 : decode cX3_buy 31 = .ok (.bipush 9, 2) := by decide +kernel
theorem dX3_buy_33 : decode cX3_buy 33 = .ok (.if_icmp .le 13, 3) := by decide +kernel
theorem dX3_buy_36 : decode cX3_buy 36 = .ok (.new 35, 3) := by decide +kernel
theorem dX3_buy_39 : decode cX3_buy 39 = .ok (.dup, 1) := by decide +kernel
theorem dX3_buy_40 : decode cX3_buy 40 = .ok (.ldc 72, 2) := by decide +kernel
theorem dX3_buy_42 : decode cX3_buy 42 = .ok (.invokespecial 39, 3) := by decide +kernel
theorem dX3_buy_45 : decode cX3_buy 45 = .ok (.athrow, 1) := by decide +kernel
theorem dX3_buy_46 : decode cX3_buy 46 = .ok (.aload_n 0, 1) := by decide +kernel
theorem dX3_buy_47 : decode cX3_buy 47 = .ok (.getfield 10, 3) := by decide +kernel
theorem dX3_buy_50 : decode cX3_buy 50 = .ok (.iload_n 1, 1) := by decide +kernel
theorem dX3_buy_51 : decode cX3_buy 51 = .ok (.invokevirtual 74, 3) := by decide +kernel
theorem dX3_buy_54 : decode cX3_buy 54 = .ok (.checkcast 51, 3) := by decide +kernel
theorem dX3_buy_57 : decode cX3_buy 57 = .ok (.astore 4, 2) := by decide +kernel
theorem dX3_buy_59 : decode cX3_buy 59 = .ok (.aload 4, 2) := by decide +kernel
theorem dX3_buy_61 : decode cX3_buy 61 = .ok (.getfield 78, 3) := by decide +kernel
theorem dX3_buy_64 : decode cX3_buy 64 = .ok (.iload_n 2, 1) := by decide +kernel
theorem dX3_buy_65 : decode cX3_buy 65 = .ok (.iaload, 1) := by decide +kernel
theorem dX3_buy_66 : decode cX3_buy 66 = .ok (.iload_n 3, 1) := by decide +kernel
theorem dX3_buy_67 : decode cX3_buy 67 = .ok (.iadd, 1) := by decide +kernel
theorem dX3_buy_68 : decode cX3_buy 68 = .ok (.bipush 9, 2) := by decide +kernel
theorem dX3_buy_70 : decode cX3_buy 70 = .ok (.if_icmp .le 13, 3) := by decide +kernel
theorem dX3_buy_73 : decode cX3_buy 73 = .ok (.new 46, 3) := by decide +kernel
theorem dX3_buy_76 : decode cX3_buy 76 = .ok (.dup, 1) := by decide +kernel
theorem dX3_buy_77 : decode cX3_buy 77 = .ok (.ldc 81, 2) := by decide +kernel
theorem dX3_buy_79 : decode cX3_buy 79 = .ok (.invokespecial 50, 3) := by decide +kernel
theorem dX3_buy_82 : decode cX3_buy 82 = .ok (.athrow, 1) := by decide +kernel
theorem dX3_buy_83 : decode cX3_buy 83 = .ok (.aload 4, 2) := by decide +kernel
theorem dX3_buy_85 : decode cX3_buy 85 = .ok (.iload_n 2, 1) := by decide +kernel
theorem dX3_buy_86 : decode cX3_buy 86 = .ok (.iload_n 3, 1) := by decide +kernel
theorem dX3_buy_87 : decode cX3_buy 87 = .ok (.invokevirtual 83, 3) := by decide +kernel
theorem dX3_buy_90 : decode cX3_buy 90 = .ok (.aload 4, 2) := by decide +kernel
theorem dX3_buy_92 : decode cX3_buy 92 = .ok (.getfield 78, 3) := by decide +kernel
theorem dX3_buy_95 : decode cX3_buy 95 = .ok (.iload_n 2, 1) := by decide +kernel
theorem dX3_buy_96 : decode cX3_buy 96 = .ok (.iaload, 1) := by decide +kernel
theorem dX3_buy_97 : decode cX3_buy 97 = .ok (.ireturn, 1) := by decide +kernel
theorem dX3_buyAll_0 : decode cX3_buyAll 0 = .ok (.aload_n 0, 1) := by decide +kernel
theorem dX3_buyAll_1 : decode cX3_buyAll 1 = .ok (.iload_n 1, 1) := by decide +kernel
theorem dX3_buyAll_2 : decode cX3_buyAll 2 = .ok (.invokevirtual 60, 3) := by decide +kernel
theorem dX3_buyAll_5 : decode cX3_buyAll 5 = .ok (.ifCond .ne 13, 3) := by decide +kernel
theorem dX3_buyAll_8 : decode cX3_buyAll 8 = .ok (.new 67, 3) := by decide +kernel
theorem dX3_buyAll_11 : decode cX3_buyAll 11 = .ok (.dup, 1) := by decide +kernel
theorem dX3_buyAll_12 : decode cX3_buyAll 12 = .ok (.ldc 86, 2) := by decide +kernel
theorem dX3_buyAll_14 : decode cX3_buyAll 14 = .ok (.invokespecial 71, 3) := by decide +kernel
theorem dX3_buyAll_17 : decode cX3_buyAll 17 = .ok (.athrow, 1) := by decide +kernel
theorem dX3_buyAll_18 : decode cX3_buyAll 18 = .ok (.iload_n 2, 1) := by decide +kernel
theorem dX3_buyAll_19 : decode cX3_buyAll 19 = .ok (.iconst 1, 1) := by decide +kernel
theorem dX3_buyAll_20 : decode cX3_buyAll 20 = .ok (.if_icmp .lt 9, 3) := by decide +kernel
theorem dX3_buyAll_23 : decode cX3_buyAll 23 = .ok (.iload_n 2, 1) := by decide +kernel
theorem dX3_buyAll_24 : decode cX3_buyAll 24 = .ok (.bipush 9, 2) := by decide +kernel
theorem dX3_buyAll_26 : decode cX3_buyAll 26 = .ok (.if_icmp .le 13, 3) := by decide +kernel
theorem dX3_buyAll_29 : decode cX3_buyAll 29 = .ok (.new 35, 3) := by decide +kernel
theorem dX3_buyAll_32 : decode cX3_buyAll 32 = .ok (.dup, 1) := by decide +kernel
theorem dX3_buyAll_33 : decode cX3_buyAll 33 = .ok (.ldc 72, 2) := by decide +kernel
theorem dX3_buyAll_35 : decode cX3_buyAll 35 = .ok (.invokespecial 39, 3) := by decide +kernel
theorem dX3_buyAll_38 : decode cX3_buyAll 38 = .ok (.athrow, 1) := by decide +kernel
theorem dX3_buyAll_39 : decode cX3_buyAll 39 = .ok (.aload_n 0, 1) := by decide +kernel
theorem dX3_buyAll_40 : decode cX3_buyAll 40 = .ok (.getfield 10, 3) := by decide +kernel
theorem dX3_buyAll_43 : decode cX3_buyAll 43 = .ok (.iload_n 1, 1) := by decide +kernel
theorem dX3_buyAll_44 : decode cX3_buyAll 44 = .ok (.invokevirtual 74, 3) := by decide +kernel
theorem dX3_buyAll_47 : decode cX3_buyAll 47 = .ok (.checkcast 51, 3) := by decide +kernel
theorem dX3_buyAll_50 : decode cX3_buyAll 50 = .ok (.astore_n 3, 1) := by decide +kernel
theorem dX3_buyAll_51 : decode cX3_buyAll 51 = .ok (.iconst 0, 1) := by decide +kernel
theorem dX3_buyAll_52 : decode cX3_buyAll 52 = .ok (.istore 4, 2) := by decide +kernel
theorem dX3_buyAll_54 : decode cX3_buyAll 54 = .ok (.iconst 0, 1) := by decide +kernel
theorem dX3_buyAll_55 : decode cX3_buyAll 55 = .ok (.istore 5, 2) := by decide +kernel
theorem dX3_buyAll_57 : decode cX3_buyAll 57 = .ok (.iload 5, 2) := by decide +kernel
theorem dX3_buyAll_59 : decode cX3_buyAll 59 = .ok (.bipush 10, 2) := by decide +kernel
theorem dX3_buyAll_61 : decode cX3_buyAll 61 = .ok (.if_icmp .ge 40, 3) := by decide +kernel
theorem dX3_buyAll_64 : decode cX3_buyAll 64 = .ok (.iload_n 2, 1) := by decide +kernel
theorem dX3_buyAll_65 : decode cX3_buyAll 65 = .ok (.bipush 9, 2) := by decide +kernel
theorem dX3_buyAll_67 : decode cX3_buyAll 67 = .ok (.aload_n 3, 1) := by decide +kernel
theorem dX3_buyAll_68 : decode cX3_buyAll 68 = .ok (.getfield 78, 3) := by decide +kernel
theorem dX3_buyAll_71 : decode cX3_buyAll 71 = .ok (.iload 5, 2) := by decide +kernel
theorem dX3_buyAll_73 : decode cX3_buyAll 73 = .ok (.iaload, 1) := by decide +kernel
theorem dX3_buyAll_74 : decode cX3_buyAll 74 = .ok (.isub, 1) := by decide +kernel
theorem dX3_buyAll_75 : decode cX3_buyAll 75 = .ok (.invokestatic 88, 3) := by decide +kernel
theorem dX3_buyAll_78 : decode cX3_buyAll 78 = .ok (.istore 6, 2) := by decide +kernel
theorem dX3_buyAll_80 : decode cX3_buyAll 80 = .ok (.aload_n 3, 1) := by decide +kernel
theorem dX3_buyAll_81 : decode cX3_buyAll 81 = .ok (.iload 5, 2) := by decide +kernel
theorem dX3_buyAll_83 : decode cX3_buyAll 83 = .ok (.iload 6, 2) := by decide +kernel
theorem dX3_buyAll_85 : decode cX3_buyAll 85 = .ok (.invokevirtual 83, 3) := by decide +kernel
theorem dX3_buyAll_88 : decode cX3_buyAll 88 = .ok (.iload 4, 2) := by decide +kernel
theorem dX3_buyAll_90 : decode cX3_buyAll 90 = .ok (.iload 6, 2) := by decide +kernel
theorem dX3_buyAll_92 : decode cX3_buyAll 92 = .ok (.iadd, 1) := by decide +kernel
theorem dX3_buyAll_93 : decode cX3_buyAll 93 = .ok (.istore 4, 2) := by decide +kernel
theorem dX3_buyAll_95 : decode cX3_buyAll 95 = .ok (.iinc 5 1, 3) := by decide +kernel
theorem dX3_buyAll_98 : decode cX3_buyAll 98 = .ok (.goto (-41), 3) := by decide +kernel
theorem dX3_buyAll_101 : decode cX3_buyAll 101 = .ok (.iload 4, 2) := by decide +kernel
theorem dX3_buyAll_103 : decode cX3_buyAll 103 = .ok (.ireturn, 1) := by decide +kernel
theorem dX3_setOther_0 : decode cX3_setOther 0 = .ok (.iload_n 1, 1) := by decide +kernel
theorem dX3_setOther_1 : decode cX3_setOther 1 = .ok (.invokestatic 64, 3) := by decide +kernel
theorem dX3_setOther_4 : decode cX3_setOther 4 = .ok (.ifCond .eq 15, 3) := by decide +kernel
theorem dX3_setOther_7 : decode cX3_setOther 7 = .ok (.iload_n 2, 1) := by decide +kernel
theorem dX3_setOther_8 : decode cX3_setOther 8 = .ok (.iconst (-1), 1) := by decide +kernel
theorem dX3_setOther_9 : decode cX3_setOther 9 = .ok (.if_icmp .eq 20, 3) := by decide +kernel
theorem dX3_setOther_12 : decode cX3_setOther 12 = .ok (.iload_n 2, 1) := by decide +kernel
theorem dX3_setOther_13 : decode cX3_setOther 13 = .ok (.invokestatic 64, 3) := by decide +kernel
theorem dX3_setOther_16 : decode cX3_setOther 16 = .ok (.ifCond .ne 13, 3) := by decide +kernel
theorem dX3_setOther_19 : decode cX3_setOther 19 = .ok (.new 67, 3) := by decide +kernel
theorem dX3_setOther_22 : decode cX3_setOther 22 = .ok (.dup, 1) := by decide +kernel
theorem dX3_setOther_23 : decode cX3_setOther 23 = .ok (.ldc 94, 2) := by decide +kernel
theorem dX3_setOther_25 : decode cX3_setOther 25 = .ok (.invokespecial 71, 3) := by decide +kernel
theorem dX3_setOther_28 : decode cX3_setOther 28 = .ok (.athrow, 1) := by decide +kernel
theorem dX3_setOther_29 : decode cX3_setOther 29 = .ok (.iload_n 1, 1) := by decide +kernel
theorem dX3_setOther_30 : decode cX3_setOther 30 = .ok (.iload_n 2, 1) := by decide +kernel
theorem dX3_setOther_31 : decode cX3_setOther 31 = .ok (.if_icmp .ne 13, 3) := by decide +kernel
theorem dX3_setOther_34 : decode cX3_setOther 34 = .ok (.new 35, 3) := by decide +kernel
theorem dX3_setOther_37 : decode cX3_setOther 37 = .ok (.dup, 1) := by decide +kernel
theorem dX3_setOther_38 : decode cX3_setOther 38 = .ok (.ldc 96, 2) := by decide +kernel
theorem dX3_setOther_40 : decode cX3_setOther 40 = .ok (.invokespecial 39, 3) := by decide +kernel
theorem dX3_setOther_43 : decode cX3_setOther 43 = .ok (.athrow, 1) := by decide +kernel
theorem dX3_setOther_44 : decode cX3_setOther 44 = .ok (.aload_n 0, 1) := by decide +kernel
theorem dX3_setOther_45 : decode cX3_setOther 45 = .ok (.getfield 19, 3) := by decide +kernel
theorem dX3_setOther_48 : decode cX3_setOther 48 = .ok (.iload_n 1, 1) := by decide +kernel
theorem dX3_setOther_49 : decode cX3_setOther 49 = .ok (.iaload, 1) := by decide +kernel
theorem dX3_setOther_50 : decode cX3_setOther 50 = .ok (.istore_n 3, 1) := by decide +kernel
theorem dX3_setOther_51 : decode cX3_setOther 51 = .ok (.aload_n 0, 1) := by decide +kernel
theorem dX3_setOther_52 : decode cX3_setOther 52 = .ok (.getfield 19, 3) := by decide +kernel
theorem dX3_setOther_55 : decode cX3_setOther 55 = .ok (.iload_n 1, 1) := by decide +kernel
theorem dX3_setOther_56 : decode cX3_setOther 56 = .ok (.iload_n 2, 1) := by decide +kernel
theorem dX3_setOther_57 : decode cX3_setOther 57 = .ok (.iastore, 1) := by decide +kernel
theorem dX3_setOther_58 : decode cX3_setOther 58 = .ok (.iload_n 3, 1) := by decide +kernel
theorem dX3_setOther_59 : decode cX3_setOther 59 = .ok (.ireturn, 1) := by decide +kernel
theorem dX3_setTown_0 : decode cX3_setTown 0 = .ok (.iload_n 1, 1) := by decide +kernel
theorem dX3_setTown_1 : decode cX3_setTown 1 = .ok (.invokestatic 98, 3) := by decide +kernel
theorem dX3_setTown_4 : decode cX3_setTown 4 = .ok (.ifCond .ne 13, 3) := by decide +kernel
theorem dX3_setTown_7 : decode cX3_setTown 7 = .ok (.new 67, 3) := by decide +kernel
theorem dX3_setTown_10 : decode cX3_setTown 10 = .ok (.dup, 1) := by decide +kernel
theorem dX3_setTown_11 : decode cX3_setTown 11 = .ok (.ldc 101, 2) := by decide +kernel
theorem dX3_setTown_13 : decode cX3_setTown 13 = .ok (.invokespecial 71, 3) := by decide +kernel
theorem dX3_setTown_16 : decode cX3_setTown 16 = .ok (.athrow, 1) := by decide +kernel
theorem dX3_setTown_17 : decode cX3_setTown 17 = .ok (.iload_n 2, 1) := by decide +kernel
theorem dX3_setTown_18 : decode cX3_setTown 18 = .ok (.ifCond .lt 19, 3) := by decide +kernel
theorem dX3_setTown_21 : decode cX3_setTown 21 = .ok (.iload_n 2, 1) := by decide +kernel
theorem dX3_setTown_22 : decode cX3_setTown 22 = .ok (.bipush 9, 2) := by decide +kernel
theorem dX3_setTown_24 : decode cX3_setTown 24 = .ok (.if_icmp .gt 13, 3) := by decide +kernel
theorem dX3_setTown_27 : decode cX3_setTown 27 = .ok (.iload_n 3, 1) := by decide +kernel
theorem dX3_setTown_28 : decode cX3_setTown 28 = .ok (.ifCond .lt 9, 3) := by decide +kernel
theorem dX3_setTown_31 : decode cX3_setTown 31 = .ok (.iload_n 3, 1) := by decide +kernel
theorem dX3_setTown_32 : decode cX3_setTown 32 = .ok (.bipush 30, 2) := by decide +kernel
theorem dX3_setTown_34 : decode cX3_setTown 34 = .ok (.if_icmp .le 13, 3) := by decide +kernel
theorem dX3_setTown_37 : decode cX3_setTown 37 = .ok (.new 35, 3) := by decide +kernel
theorem dX3_setTown_40 : decode cX3_setTown 40 = .ok (.dup, 1) := by decide +kernel
theorem dX3_setTown_41 : decode cX3_setTown 41 = .ok (.ldc 103, 2) := by decide +kernel
theorem dX3_setTown_43 : decode cX3_setTown 43 = .ok (.invokespecial 39, 3) := by decide +kernel
theorem dX3_setTown_46 : decode cX3_setTown 46 = .ok (.athrow, 1) := by decide +kernel
theorem dX3_setTown_47 : decode cX3_setTown 47 = .ok (.bipush 100, 2) := by decide +kernel
theorem dX3_setTown_49 : decode cX3_setTown 49 = .ok (.aload_n 0, 1) := by decide +kernel
theorem dX3_setTown_50 : decode cX3_setTown 50 = .ok (.getfield 23, 3) := by decide +kernel
theorem dX3_setTown_53 : decode cX3_setTown 53 = .ok (.iload_n 1, 1) := by decide +kernel
theorem dX3_setTown_54 : decode cX3_setTown 54 = .ok (.iaload, 1) := by decide +kernel
theorem dX3_setTown_55 : decode cX3_setTown 55 = .ok (.imul, 1) := by decide +kernel
theorem dX3_setTown_56 : decode cX3_setTown 56 = .ok (.aload_n 0, 1) := by decide +kernel
theorem dX3_setTown_57 : decode cX3_setTown 57 = .ok (.getfield 26, 3) := by decide +kernel
theorem dX3_setTown_60 : decode cX3_setTown 60 = .ok (.iload_n 1, 1) := by decide +kernel
theorem dX3_setTown_61 : decode cX3_setTown 61 = .ok (.iaload, 1) := by decide +kernel
theorem dX3_setTown_62 : decode cX3_setTown 62 = .ok (.iadd, 1) := by decide +kernel
theorem dX3_setTown_63 : decode cX3_setTown 63 = .ok (.istore 4, 2) := by decide +kernel
theorem dX3_setTown_65 : decode cX3_setTown 65 = .ok (.aload_n 0, 1) := by decide +kernel
theorem dX3_setTown_66 : decode cX3_setTown 66 = .ok (.getfield 23, 3) := by decide +kernel
theorem dX3_setTown_69 : decode cX3_setTown 69 = .ok (.iload_n 1, 1) := by decide +kernel
theorem dX3_setTown_70 : decode cX3_setTown 70 = .ok (.iload_n 2, 1) := by decide +kernel
theorem dX3_setTown_71 : decode cX3_setTown 71 = .ok (.iastore, 1) := by decide +kernel
theorem dX3_setTown_72 : decode cX3_setTown 72 = .ok (.aload_n 0, 1) := by decide +kernel
theorem dX3_setTown_73 : decode cX3_setTown 73 = .ok (.getfield 26, 3) := by decide +kernel
theorem dX3_setTown_76 : decode cX3_setTown 76 = .ok (.iload_n 1, 1) := by decide +kernel
theorem dX3_setTown_77 : decode cX3_setTown 77 = .ok (.iload_n 3, 1) := by decide +kernel
theorem dX3_setTown_78 : decode cX3_setTown 78 = .ok (.iastore, 1) := by decide +kernel
theorem dX3_setTown_79 : decode cX3_setTown 79 = .ok (.iload 4, 2) := by decide +kernel
theorem dX3_setTown_81 : decode cX3_setTown 81 = .ok (.ireturn, 1) := by decide +kernel
theorem dX3_poster_0 : decode cX3_poster 0 = .ok (.iload_n 1, 1) := by decide +kernel
theorem dX3_poster_1 : decode cX3_poster 1 = .ok (.invokestatic 98, 3) := by decide +kernel
theorem dX3_poster_4 : decode cX3_poster 4 = .ok (.ifCond .ne 13, 3) := by decide +kernel
theorem dX3_poster_7 : decode cX3_poster 7 = .ok (.new 67, 3) := by decide +kernel
theorem dX3_poster_10 : decode cX3_poster 10 = .ok (.dup, 1) := by decide +kernel
theorem dX3_poster_11 : decode cX3_poster 11 = .ok (.ldc 101, 2) := by decide +kernel
theorem dX3_poster_13 : decode cX3_poster 13 = .ok (.invokespecial 71, 3) := by decide +kernel
theorem dX3_poster_16 : decode cX3_poster 16 = .ok (.athrow, 1) := by decide +kernel
theorem dX3_poster_17 : decode cX3_poster 17 = .ok (.iload_n 2, 1) := by decide +kernel
theorem dX3_poster_18 : decode cX3_poster 18 = .ok (.iconst 1, 1) := by decide +kernel
theorem dX3_poster_19 : decode cX3_poster 19 = .ok (.if_icmp .lt 9, 3) := by decide +kernel
theorem dX3_poster_22 : decode cX3_poster 22 = .ok (.iload_n 2, 1) := by decide +kernel
theorem dX3_poster_23 : decode cX3_poster 23 = .ok (.bipush 20, 2) := by decide +kernel
theorem dX3_poster_25 : decode cX3_poster 25 = .ok (.if_icmp .le 13, 3) := by decide +kernel
theorem dX3_poster_28 : decode cX3_poster 28 = .ok (.new 35, 3) := by decide +kernel
theorem dX3_poster_31 : decode cX3_poster 31 = .ok (.dup, 1) := by decide +kernel
theorem dX3_poster_32 : decode cX3_poster 32 = .ok (.ldc 105, 2) := by decide +kernel
theorem dX3_poster_34 : decode cX3_poster 34 = .ok (.invokespecial 39, 3) := by decide +kernel
theorem dX3_poster_37 : decode cX3_poster 37 = .ok (.athrow, 1) := by decide +kernel
theorem dX3_poster_38 : decode cX3_poster 38 = .ok (.aload_n 0, 1) := by decide +kernel
theorem dX3_poster_39 : decode cX3_poster 39 = .ok (.getfield 16, 3) := by decide +kernel
theorem dX3_poster_42 : decode cX3_poster 42 = .ok (.invokevirtual 42, 3) := by decide +kernel
theorem dX3_poster_45 : decode cX3_poster 45 = .ok (.bipush 6, 2) := by decide +kernel
theorem dX3_poster_47 : decode cX3_poster 47 = .ok (.if_icmp .lt 13, 3) := by decide +kernel
theorem dX3_poster_50 : decode cX3_poster 50 = .ok (.new 46, 3) := by decide +kernel
theorem dX3_poster_53 : decode cX3_poster 53 = .ok (.dup, 1) := by decide +kernel
theorem dX3_poster_54 : decode cX3_poster 54 = .ok (.ldc 107, 2) := by decide +kernel
theorem dX3_poster_56 : decode cX3_poster 56 = .ok (.invokespecial 50, 3) := by decide +kernel
theorem dX3_poster_59 : decode cX3_poster 59 = .ok (.athrow, 1) := by decide +kernel
theorem dX3_poster_60 : decode cX3_poster 60 = .ok (.aload_n 0, 1) := by decide +kernel
theorem dX3_poster_61 : decode cX3_poster 61 = .ok (.getfield 16, 3) := by decide +kernel
theorem dX3_poster_64 : decode cX3_poster 64 = .ok (.invokevirtual 42, 3) := by decide +kernel
theorem dX3_poster_67 : decode cX3_poster 67 = .ok (.istore_n 3, 1) := by decide +kernel
theorem dX3_poster_68 : decode cX3_poster 68 = .ok (.aload_n 0, 1) := by decide +kernel
theorem dX3_poster_69 : decode cX3_poster 69 = .ok (.getfield 16, 3) := by decide +kernel
theorem dX3_poster_72 : decode cX3_poster 72 = .ok (.new 109, 3) := by decide +kernel
theorem dX3_poster_75 : decode cX3_poster 75 = .ok (.dup, 1) := by decide +kernel
theorem dX3_poster_76 : decode cX3_poster 76 = .ok (.iload_n 1, 1) := by decide +kernel
theorem dX3_poster_77 : decode cX3_poster 77 = .ok (.iload_n 2, 1) := by decide +kernel
theorem dX3_poster_78 : decode cX3_poster 78 = .ok (.invokespecial 111, 3) := by decide +kernel
theorem dX3_poster_81 : decode cX3_poster 81 = .ok (.invokevirtual 56, 3) := by decide +kernel
theorem dX3_poster_84 : decode cX3_poster 84 = .ok (.pop, 1) := by decide +kernel
theorem dX3_poster_85 : decode cX3_poster 85 = .ok (.iload_n 3, 1) := by decide +kernel
theorem dX3_poster_86 : decode cX3_poster 86 = .ok (.ireturn, 1) := by decide +kernel
theorem dX3_line_0 : decode cX3_line 0 = .ok (.aload_n 0, 1) := by decide +kernel
theorem dX3_line_1 : decode cX3_line 1 = .ok (.iload_n 1, 1) := by decide +kernel
theorem dX3_line_2 : decode cX3_line 2 = .ok (.invokevirtual 112, 3) := by decide +kernel
theorem dX3_line_5 : decode cX3_line 5 = .ok (.ifCond .ne 13, 3) := by decide +kernel
theorem dX3_line_8 : decode cX3_line 8 = .ok (.new 67, 3) := by decide +kernel
theorem dX3_line_11 : decode cX3_line 11 = .ok (.dup, 1) := by decide +kernel
theorem dX3_line_12 : decode cX3_line 12 = .ok (.ldc 115, 2) := by decide +kernel
theorem dX3_line_14 : decode cX3_line 14 = .ok (.invokespecial 71, 3) := by decide +kernel
theorem dX3_line_17 : decode cX3_line 17 = .ok (.athrow, 1) := by decide +kernel
theorem dX3_line_18 : decode cX3_line 18 = .ok (.iload_n 2, 1) := by decide +kernel
theorem dX3_line_19 : decode cX3_line 19 = .ok (.ifCond .lt 9, 3) := by decide +kernel
theorem dX3_line_22 : decode cX3_line 22 = .ok (.iload_n 2, 1) := by decide +kernel
theorem dX3_line_23 : decode cX3_line 23 = .ok (.ldc 117, 2) := by decide +kernel
theorem dX3_line_25 : decode cX3_line 25 = .ok (.if_icmp .le 13, 3) := by decide +kernel
theorem dX3_line_28 : decode cX3_line 28 = .ok (.new 35, 3) := by decide +kernel
theorem dX3_line_31 : decode cX3_line 31 = .ok (.dup, 1) := by decide +kernel
theorem dX3_line_32 : decode cX3_line 32 = .ok (.ldc 118, 2) := by decide +kernel
theorem dX3_line_34 : decode cX3_line 34 = .ok (.invokespecial 39, 3) := by decide +kernel
theorem dX3_line_37 : decode cX3_line 37 = .ok (.athrow, 1) := by decide +kernel
theorem dX3_line_38 : decode cX3_line 38 = .ok (.aload_n 0, 1) := by decide +kernel
theorem dX3_line_39 : decode cX3_line 39 = .ok (.getfield 16, 3) := by decide +kernel
theorem dX3_line_42 : decode cX3_line 42 = .ok (.iload_n 1, 1) := by decide +kernel
theorem dX3_line_43 : decode cX3_line 43 = .ok (.invokevirtual 74, 3) := by decide +kernel
theorem dX3_line_46 : decode cX3_line 46 = .ok (.checkcast 109, 3) := by decide +kernel
theorem dX3_line_49 : decode cX3_line 49 = .ok (.astore_n 3, 1) := by decide +kernel
theorem dX3_line_50 : decode cX3_line 50 = .ok (.aload_n 3, 1) := by decide +kernel
theorem dX3_line_51 : decode cX3_line 51 = .ok (.getfield 120, 3) := by decide +kernel
theorem dX3_line_54 : decode cX3_line 54 = .ok (.ifCond .ne 14, 3) := by decide +kernel
theorem dX3_line_57 : decode cX3_line 57 = .ok (.aload_n 3, 1) := by decide +kernel
theorem dX3_line_58 : decode cX3_line 58 = .ok (.getfield 124, 3) := by decide +kernel
theorem dX3_line_61 : decode cX3_line 61 = .ok (.invokevirtual 42, 3) := by decide +kernel
theorem dX3_line_64 : decode cX3_line 64 = .ok (.iconst 4, 1) := by decide +kernel
theorem dX3_line_65 : decode cX3_line 65 = .ok (.if_icmp .lt 13, 3) := by decide +kernel
theorem dX3_line_68 : decode cX3_line 68 = .ok (.new 46, 3) := by decide +kernel
theorem dX3_line_71 : decode cX3_line 71 = .ok (.dup, 1) := by decide +kernel
theorem dX3_line_72 : decode cX3_line 72 = .ok (.ldc 127, 2) := by decide +kernel
theorem dX3_line_74 : decode cX3_line 74 = .ok (.invokespecial 50, 3) := by decide +kernel
theorem dX3_line_77 : decode cX3_line 77 = .ok (.athrow, 1) := by decide +kernel
theorem dX3_line_78 : decode cX3_line 78 = .ok (.aload_n 3, 1) := by decide +kernel
theorem dX3_line_79 : decode cX3_line 79 = .ok (.getfield 124, 3) := by decide +kernel
theorem dX3_line_82 : decode cX3_line 82 = .ok (.invokevirtual 42, 3) := by decide +kernel
theorem dX3_line_85 : decode cX3_line 85 = .ok (.istore 4, 2) := by decide +kernel
theorem dX3_line_87 : decode cX3_line 87 = .ok (.aload_n 3, 1) := by decide +kernel
theorem dX3_line_88 : decode cX3_line 88 = .ok (.getfield 124, 3) := by decide +kernel
theorem dX3_line_91 : decode cX3_line 91 = .ok (.new 129, 3) := by decide +kernel
theorem dX3_line_94 : decode cX3_line 94 = .ok (.dup, 1) := by decide +kernel
theorem dX3_line_95 : decode cX3_line 95 = .ok (.iload_n 2, 1) := by decide +kernel
theorem dX3_line_96 : decode cX3_line 96 = .ok (.invokespecial 131, 3) := by decide +kernel
theorem dX3_line_99 : decode cX3_line 99 = .ok (.invokevirtual 56, 3) := by decide +kernel
theorem dX3_line_102 : decode cX3_line 102 = .ok (.pop, 1) := by decide +kernel
theorem dX3_line_103 : decode cX3_line 103 = .ok (.iload 4, 2) := by decide +kernel
theorem dX3_line_105 : decode cX3_line 105 = .ok (.ireturn, 1) := by decide +kernel
theorem dX3_set_0 : decode cX3_set 0 = .ok (.aload_n 0, 1) := by decide +kernel
theorem dX3_set_1 : decode cX3_set 1 = .ok (.iload_n 1, 1) := by decide +kernel
theorem dX3_set_2 : decode cX3_set 2 = .ok (.invokevirtual 112, 3) := by decide +kernel
theorem dX3_set_5 : decode cX3_set 5 = .ok (.ifCond .ne 13, 3) := by decide +kernel
theorem dX3_set_8 : decode cX3_set 8 = .ok (.new 67, 3) := by decide +kernel
theorem dX3_set_11 : decode cX3_set 11 = .ok (.dup, 1) := by decide +kernel
theorem dX3_set_12 : decode cX3_set 12 = .ok (.ldc 115, 2) := by decide +kernel
theorem dX3_set_14 : decode cX3_set 14 = .ok (.invokespecial 71, 3) := by decide +kernel
theorem dX3_set_17 : decode cX3_set 17 = .ok (.athrow, 1) := by decide +kernel
theorem dX3_set_18 : decode cX3_set 18 = .ok (.aload_n 0, 1) := by decide +kernel
theorem dX3_set_19 : decode cX3_set 19 = .ok (.getfield 16, 3) := by decide +kernel
theorem dX3_set_22 : decode cX3_set 22 = .ok (.iload_n 1, 1) := by decide +kernel
theorem dX3_set_23 : decode cX3_set 23 = .ok (.invokevirtual 74, 3) := by decide +kernel
theorem dX3_set_26 : decode cX3_set 26 = .ok (.checkcast 109, 3) := by decide +kernel
theorem dX3_set_29 : decode cX3_set 29 = .ok (.astore_n 2, 1) := by decide +kernel
theorem dX3_set_30 : decode cX3_set 30 = .ok (.aload_n 0, 1) := by decide +kernel
theorem dX3_set_31 : decode cX3_set 31 = .ok (.aload_n 2, 1) := by decide +kernel
theorem dX3_set_32 : decode cX3_set 32 = .ok (.invokevirtual 134, 3) := by decide +kernel
theorem dX3_set_35 : decode cX3_set 35 = .ok (.istore_n 3, 1) := by decide +kernel
theorem dX3_set_36 : decode cX3_set 36 = .ok (.iload_n 3, 1) := by decide +kernel
theorem dX3_set_37 : decode cX3_set 37 = .ok (.iconst (-1), 1) := by decide +kernel
theorem dX3_set_38 : decode cX3_set 38 = .ok (.if_icmp .ne 13, 3) := by decide +kernel
theorem dX3_set_41 : decode cX3_set 41 = .ok (.new 46, 3) := by decide +kernel
theorem dX3_set_44 : decode cX3_set 44 = .ok (.dup, 1) := by decide +kernel
theorem dX3_set_45 : decode cX3_set 45 = .ok (.ldc 138, 2) := by decide +kernel
theorem dX3_set_47 : decode cX3_set 47 = .ok (.invokespecial 50, 3) := by decide +kernel
theorem dX3_set_50 : decode cX3_set 50 = .ok (.athrow, 1) := by decide +kernel
theorem dX3_set_51 : decode cX3_set 51 = .ok (.iconst 0, 1) := by decide +kernel
theorem dX3_set_52 : decode cX3_set 52 = .ok (.istore 4, 2) := by decide +kernel
theorem dX3_set_54 : decode cX3_set 54 = .ok (.iload 4, 2) := by decide +kernel
theorem dX3_set_56 : decode cX3_set 56 = .ok (.aload_n 2, 1) := by decide +kernel
theorem dX3_set_57 : decode cX3_set 57 = .ok (.getfield 124, 3) := by decide +kernel
theorem dX3_set_60 : decode cX3_set 60 = .ok (.invokevirtual 42, 3) := by decide +kernel
theorem dX3_set_63 : decode cX3_set 63 = .ok (.if_icmp .ge 24, 3) := by decide +kernel
theorem dX3_set_66 : decode cX3_set 66 = .ok (.aload_n 2, 1) := by decide +kernel
theorem dX3_set_67 : decode cX3_set 67 = .ok (.getfield 124, 3) := by decide +kernel
theorem dX3_set_70 : decode cX3_set 70 = .ok (.iload 4, 2) := by decide +kernel
theorem dX3_set_72 : decode cX3_set 72 = .ok (.invokevirtual 74, 3) := by decide +kernel
theorem dX3_set_75 : decode cX3_set 75 = .ok (.checkcast 129, 3) := by decide +kernel
theorem dX3_set_78 : decode cX3_set 78 = .ok (.invokevirtual 140, 3) := by decide +kernel
theorem dX3_set_81 : decode cX3_set 81 = .ok (.iinc 4 1, 3) := by decide +kernel
theorem dX3_set_84 : decode cX3_set 84 = .ok (.goto (-30), 3) := by decide +kernel
theorem dX3_set_87 : decode cX3_set 87 = .ok (.aload_n 2, 1) := by decide +kernel
theorem dX3_set_88 : decode cX3_set 88 = .ok (.iconst 1, 1) := by decide +kernel
theorem dX3_set_89 : decode cX3_set 89 = .ok (.putfield 120, 3) := by decide +kernel
theorem dX3_set_92 : decode cX3_set 92 = .ok (.iload_n 3, 1) := by decide +kernel
theorem dX3_set_93 : decode cX3_set 93 = .ok (.ireturn, 1) := by decide +kernel
theorem dX3_print_0 : decode cX3_print 0 = .ok (.aload_n 0, 1) := by decide +kernel
theorem dX3_print_1 : decode cX3_print 1 = .ok (.iload_n 1, 1) := by decide +kernel
theorem dX3_print_2 : decode cX3_print 2 = .ok (.invokevirtual 112, 3) := by decide +kernel
theorem dX3_print_5 : decode cX3_print 5 = .ok (.ifCond .ne 13, 3) := by decide +kernel
theorem dX3_print_8 : decode cX3_print 8 = .ok (.new 67, 3) := by decide +kernel
theorem dX3_print_11 : decode cX3_print 11 = .ok (.dup, 1) := by decide +kernel
theorem dX3_print_12 : decode cX3_print 12 = .ok (.ldc 115, 2) := by decide +kernel
theorem dX3_print_14 : decode cX3_print 14 = .ok (.invokespecial 71, 3) := by decide +kernel
theorem dX3_print_17 : decode cX3_print 17 = .ok (.athrow, 1) := by decide +kernel
theorem dX3_print_18 : decode cX3_print 18 = .ok (.iload_n 2, 1) := by decide +kernel
theorem dX3_print_19 : decode cX3_print 19 = .ok (.iconst 1, 1) := by decide +kernel
theorem dX3_print_20 : decode cX3_print 20 = .ok (.if_icmp .lt 10, 3) := by decide +kernel
theorem dX3_print_23 : decode cX3_print 23 = .ok (.iload_n 2, 1) := by decide +kernel
theorem dX3_print_24 : decode cX3_print 24 = .ok (.sipush 500, 3) := by decide +kernel
theorem dX3_print_27 : decode cX3_print 27 = .ok (.if_icmp .le 13, 3) := by decide +kernel
theorem dX3_print_30 : decode cX3_print 30 = .ok (.new 35, 3) := by decide +kernel
theorem dX3_print_33 : decode cX3_print 33 = .ok (.dup, 1) := by decide +kernel
theorem dX3_print_34 : decode cX3_print 34 = .ok (.ldc 143, 2) := by decide +kernel
theorem dX3_print_36 : decode cX3_print 36 = .ok (.invokespecial 39, 3) := by decide +kernel
theorem dX3_print_39 : decode cX3_print 39 = .ok (.athrow, 1) := by decide +kernel
theorem dX3_print_40 : decode cX3_print 40 = .ok (.aload_n 0, 1) := by decide +kernel
theorem dX3_print_41 : decode cX3_print 41 = .ok (.getfield 16, 3) := by decide +kernel
theorem dX3_print_44 : decode cX3_print 44 = .ok (.iload_n 1, 1) := by decide +kernel
theorem dX3_print_45 : decode cX3_print 45 = .ok (.invokevirtual 74, 3) := by decide +kernel
theorem dX3_print_48 : decode cX3_print 48 = .ok (.checkcast 109, 3) := by decide +kernel
theorem dX3_print_51 : decode cX3_print 51 = .ok (.astore_n 3, 1) := by decide +kernel
theorem dX3_print_52 : decode cX3_print 52 = .ok (.aload_n 3, 1) := by decide +kernel
theorem dX3_print_53 : decode cX3_print 53 = .ok (.getfield 120, 3) := by decide +kernel
theorem dX3_print_56 : decode cX3_print 56 = .ok (.ifCond .ne 13, 3) := by decide +kernel
theorem dX3_print_59 : decode cX3_print 59 = .ok (.new 46, 3) := by decide +kernel
theorem dX3_print_62 : decode cX3_print 62 = .ok (.dup, 1) := by decide +kernel
theorem dX3_print_63 : decode cX3_print 63 = .ok (.ldc 145, 2) := by decide +kernel
theorem dX3_print_65 : decode cX3_print 65 = .ok (.invokespecial 50, 3) := by decide +kernel
theorem dX3_print_68 : decode cX3_print 68 = .ok (.athrow, 1) := by decide +kernel
theorem dX3_print_69 : decode cX3_print 69 = .ok (.iconst 0, 1) := by decide +kernel
theorem dX3_print_70 : decode cX3_print 70 = .ok (.istore 4, 2) := by decide +kernel
theorem dX3_print_72 : decode cX3_print 72 = .ok (.iload 4, 2) := by decide +kernel
theorem dX3_print_74 : decode cX3_print 74 = .ok (.aload_n 3, 1) := by decide +kernel
theorem dX3_print_75 : decode cX3_print 75 = .ok (.getfield 124, 3) := by decide +kernel
theorem dX3_print_78 : decode cX3_print 78 = .ok (.invokevirtual 42, 3) := by decide +kernel
theorem dX3_print_81 : decode cX3_print 81 = .ok (.if_icmp .ge 25, 3) := by decide +kernel
theorem dX3_print_84 : decode cX3_print 84 = .ok (.aload_n 3, 1) := by decide +kernel
theorem dX3_print_85 : decode cX3_print 85 = .ok (.getfield 124, 3) := by decide +kernel
theorem dX3_print_88 : decode cX3_print 88 = .ok (.iload 4, 2) := by decide +kernel
theorem dX3_print_90 : decode cX3_print 90 = .ok (.invokevirtual 74, 3) := by decide +kernel
theorem dX3_print_93 : decode cX3_print 93 = .ok (.checkcast 129, 3) := by decide +kernel
theorem dX3_print_96 : decode cX3_print 96 = .ok (.iload_n 2, 1) := by decide +kernel
theorem dX3_print_97 : decode cX3_print 97 = .ok (.invokevirtual 147, 3) := by decide +kernel
theorem dX3_print_100 : decode cX3_print 100 = .ok (.iinc 4 1, 3) := by decide +kernel
theorem dX3_print_103 : decode cX3_print 103 = .ok (.goto (-31), 3) := by decide +kernel
theorem dX3_print_106 : decode cX3_print 106 = .ok (.aload_n 0, 1) := by decide +kernel
theorem dX3_print_107 : decode cX3_print 107 = .ok (.aload_n 3, 1) := by decide +kernel
theorem dX3_print_108 : decode cX3_print 108 = .ok (.invokevirtual 150, 3) := by decide +kernel
theorem dX3_print_111 : decode cX3_print 111 = .ok (.iload_n 2, 1) := by decide +kernel
theorem dX3_print_112 : decode cX3_print 112 = .ok (.imul, 1) := by decide +kernel
theorem dX3_print_113 : decode cX3_print 113 = .ok (.bipush 100, 2) := by decide +kernel
theorem dX3_print_115 : decode cX3_print 115 = .ok (.idiv, 1) := by decide +kernel
theorem dX3_print_116 : decode cX3_print 116 = .ok (.istore 4, 2) := by decide +kernel
theorem dX3_print_118 : decode cX3_print 118 = .ok (.aload_n 3, 1) := by decide +kernel
theorem dX3_print_119 : decode cX3_print 119 = .ok (.dup, 1) := by decide +kernel
theorem dX3_print_120 : decode cX3_print 120 = .ok (.getfield 153, 3) := by decide +kernel
theorem dX3_print_123 : decode cX3_print 123 = .ok (.iload_n 2, 1) := by decide +kernel
theorem dX3_print_124 : decode cX3_print 124 = .ok (.iadd, 1) := by decide +kernel
theorem dX3_print_125 : decode cX3_print 125 = .ok (.putfield 153, 3) := by decide +kernel
theorem dX3_print_128 : decode cX3_print 128 = .ok (.aload_n 0, 1) := by decide +kernel
theorem dX3_print_129 : decode cX3_print 129 = .ok (.dup, 1) := by decide +kernel
theorem dX3_print_130 : decode cX3_print 130 = .ok (.getfield 157, 3) := by decide +kernel
theorem dX3_print_133 : decode cX3_print 133 = .ok (.iload 4, 2) := by decide +kernel
theorem dX3_print_135 : decode cX3_print 135 = .ok (.iadd, 1) := by decide +kernel
theorem dX3_print_136 : decode cX3_print 136 = .ok (.putfield 157, 3) := by decide +kernel
theorem dX3_print_139 : decode cX3_print 139 = .ok (.iload 4, 2) := by decide +kernel
theorem dX3_print_141 : decode cX3_print 141 = .ok (.ireturn, 1) := by decide +kernel
theorem dX3_strike_0 : decode cX3_strike 0 = .ok (.aload_n 0, 1) := by decide +kernel
theorem dX3_strike_1 : decode cX3_strike 1 = .ok (.iload_n 1, 1) := by decide +kernel
theorem dX3_strike_2 : decode cX3_strike 2 = .ok (.invokevirtual 112, 3) := by decide +kernel
theorem dX3_strike_5 : decode cX3_strike 5 = .ok (.ifCond .ne 13, 3) := by decide +kernel
theorem dX3_strike_8 : decode cX3_strike 8 = .ok (.new 67, 3) := by decide +kernel
theorem dX3_strike_11 : decode cX3_strike 11 = .ok (.dup, 1) := by decide +kernel
theorem dX3_strike_12 : decode cX3_strike 12 = .ok (.ldc 115, 2) := by decide +kernel
theorem dX3_strike_14 : decode cX3_strike 14 = .ok (.invokespecial 71, 3) := by decide +kernel
theorem dX3_strike_17 : decode cX3_strike 17 = .ok (.athrow, 1) := by decide +kernel
theorem dX3_strike_18 : decode cX3_strike 18 = .ok (.aload_n 0, 1) := by decide +kernel
theorem dX3_strike_19 : decode cX3_strike 19 = .ok (.getfield 16, 3) := by decide +kernel
theorem dX3_strike_22 : decode cX3_strike 22 = .ok (.iload_n 1, 1) := by decide +kernel
theorem dX3_strike_23 : decode cX3_strike 23 = .ok (.invokevirtual 74, 3) := by decide +kernel
theorem dX3_strike_26 : decode cX3_strike 26 = .ok (.checkcast 109, 3) := by decide +kernel
theorem dX3_strike_29 : decode cX3_strike 29 = .ok (.astore_n 2, 1) := by decide +kernel
theorem dX3_strike_30 : decode cX3_strike 30 = .ok (.aload_n 2, 1) := by decide +kernel
theorem dX3_strike_31 : decode cX3_strike 31 = .ok (.getfield 120, 3) := by decide +kernel
theorem dX3_strike_34 : decode cX3_strike 34 = .ok (.ifCond .ne 13, 3) := by decide +kernel
theorem dX3_strike_37 : decode cX3_strike 37 = .ok (.new 46, 3) := by decide +kernel
theorem dX3_strike_40 : decode cX3_strike 40 = .ok (.dup, 1) := by decide +kernel
theorem dX3_strike_41 : decode cX3_strike 41 = .ok (.ldc 145, 2) := by decide +kernel
theorem dX3_strike_43 : decode cX3_strike 43 = .ok (.invokespecial 50, 3) := by decide +kernel
theorem dX3_strike_46 : decode cX3_strike 46 = .ok (.athrow, 1) := by decide +kernel
theorem dX3_strike_47 : decode cX3_strike 47 = .ok (.iconst 0, 1) := by decide +kernel
theorem dX3_strike_48 : decode cX3_strike 48 = .ok (.istore_n 3, 1) := by decide +kernel
theorem dX3_strike_49 : decode cX3_strike 49 = .ok (.iload_n 3, 1) := by decide +kernel
theorem dX3_strike_50 : decode cX3_strike 50 = .ok (.aload_n 2, 1) := by decide +kernel
theorem dX3_strike_51 : decode cX3_strike 51 = .ok (.getfield 124, 3) := by decide +kernel
theorem dX3_strike_54 : decode cX3_strike 54 = .ok (.invokevirtual 42, 3) := by decide +kernel
theorem dX3_strike_57 : decode cX3_strike 57 = .ok (.if_icmp .ge 23, 3) := by decide +kernel
theorem dX3_strike_60 : decode cX3_strike 60 = .ok (.aload_n 2, 1) := by decide +kernel
theorem dX3_strike_61 : decode cX3_strike 61 = .ok (.getfield 124, 3) := by decide +kernel
theorem dX3_strike_64 : decode cX3_strike 64 = .ok (.iload_n 3, 1) := by decide +kernel
theorem dX3_strike_65 : decode cX3_strike 65 = .ok (.invokevirtual 74, 3) := by decide +kernel
theorem dX3_strike_68 : decode cX3_strike 68 = .ok (.checkcast 129, 3) := by decide +kernel
theorem dX3_strike_71 : decode cX3_strike 71 = .ok (.invokevirtual 160, 3) := by decide +kernel
theorem dX3_strike_74 : decode cX3_strike 74 = .ok (.iinc 3 1, 3) := by decide +kernel
theorem dX3_strike_77 : decode cX3_strike 77 = .ok (.goto (-28), 3) := by decide +kernel
theorem dX3_strike_80 : decode cX3_strike 80 = .ok (.aload_n 2, 1) := by decide +kernel
theorem dX3_strike_81 : decode cX3_strike 81 = .ok (.iconst 0, 1) := by decide +kernel
theorem dX3_strike_82 : decode cX3_strike 82 = .ok (.putfield 120, 3) := by decide +kernel
theorem dX3_strike_85 : decode cX3_strike 85 = .ok (.iconst 0, 1) := by decide +kernel
theorem dX3_strike_86 : decode cX3_strike 86 = .ok (.istore_n 3, 1) := by decide +kernel
theorem dX3_strike_87 : decode cX3_strike 87 = .ok (.iconst 0, 1) := by decide +kernel
theorem dX3_strike_88 : decode cX3_strike 88 = .ok (.istore 4, 2) := by decide +kernel
theorem dX3_strike_90 : decode cX3_strike 90 = .ok (.iload 4, 2) := by decide +kernel
theorem dX3_strike_92 : decode cX3_strike 92 = .ok (.aload_n 0, 1) := by decide +kernel
theorem dX3_strike_93 : decode cX3_strike 93 = .ok (.getfield 10, 3) := by decide +kernel
theorem dX3_strike_96 : decode cX3_strike 96 = .ok (.invokevirtual 42, 3) := by decide +kernel
theorem dX3_strike_99 : decode cX3_strike 99 = .ok (.if_icmp .ge 27, 3) := by decide +kernel
theorem dX3_strike_102 : decode cX3_strike 102 = .ok (.iload_n 3, 1) := by decide +kernel
theorem dX3_strike_103 : decode cX3_strike 103 = .ok (.aload_n 0, 1) := by decide +kernel
theorem dX3_strike_104 : decode cX3_strike 104 = .ok (.getfield 10, 3) := by decide +kernel
theorem dX3_strike_107 : decode cX3_strike 107 = .ok (.iload 4, 2) := by decide +kernel
theorem dX3_strike_109 : decode cX3_strike 109 = .ok (.invokevirtual 74, 3) := by decide +kernel
theorem dX3_strike_112 : decode cX3_strike 112 = .ok (.checkcast 51, 3) := by decide +kernel
theorem dX3_strike_115 : decode cX3_strike 115 = .ok (.invokevirtual 163, 3) := by decide +kernel
theorem dX3_strike_118 : decode cX3_strike 118 = .ok (.iadd, 1) := by decide +kernel
theorem dX3_strike_119 : decode cX3_strike 119 = .ok (.istore_n 3, 1) := by decide +kernel
theorem dX3_strike_120 : decode cX3_strike 120 = .ok (.iinc 4 1, 3) := by decide +kernel
theorem dX3_strike_123 : decode cX3_strike 123 = .ok (.goto (-33), 3) := by decide +kernel
theorem dX3_strike_126 : decode cX3_strike 126 = .ok (.aload_n 0, 1) := by decide +kernel
theorem dX3_strike_127 : decode cX3_strike 127 = .ok (.dup, 1) := by decide +kernel
theorem dX3_strike_128 : decode cX3_strike 128 = .ok (.getfield 166, 3) := by decide +kernel
theorem dX3_strike_131 : decode cX3_strike 131 = .ok (.iload_n 3, 1) := by decide +kernel
theorem dX3_strike_132 : decode cX3_strike 132 = .ok (.iadd, 1) := by decide +kernel
theorem dX3_strike_133 : decode cX3_strike 133 = .ok (.putfield 166, 3) := by decide +kernel
theorem dX3_strike_136 : decode cX3_strike 136 = .ok (.iload_n 3, 1) := by decide +kernel
theorem dX3_strike_137 : decode cX3_strike 137 = .ok (.ireturn, 1) := by decide +kernel
theorem dX3_block_0 : decode cX3_block 0 = .ok (.aload_n 0, 1) := by decide +kernel
theorem dX3_block_1 : decode cX3_block 1 = .ok (.iload_n 1, 1) := by decide +kernel
theorem dX3_block_2 : decode cX3_block 2 = .ok (.invokevirtual 60, 3) := by decide +kernel
theorem dX3_block_5 : decode cX3_block 5 = .ok (.ifCond .eq 10, 3) := by decide +kernel
theorem dX3_block_8 : decode cX3_block 8 = .ok (.iload_n 2, 1) := by decide +kernel
theorem dX3_block_9 : decode cX3_block 9 = .ok (.invokestatic 64, 3) := by decide +kernel
theorem dX3_block_12 : decode cX3_block 12 = .ok (.ifCond .ne 13, 3) := by decide +kernel
theorem dX3_block_15 : decode cX3_block 15 = .ok (.new 67, 3) := by decide +kernel
theorem dX3_block_18 : decode cX3_block 18 = .ok (.dup, 1) := by decide +kernel
theorem dX3_block_19 : decode cX3_block 19 = .ok (.ldc 69, 2) := by decide +kernel
theorem dX3_block_21 : decode cX3_block 21 = .ok (.invokespecial 71, 3) := by decide +kernel
theorem dX3_block_24 : decode cX3_block 24 = .ok (.athrow, 1) := by decide +kernel
theorem dX3_block_25 : decode cX3_block 25 = .ok (.aload_n 0, 1) := by decide +kernel
theorem dX3_block_26 : decode cX3_block 26 = .ok (.getfield 10, 3) := by decide +kernel
theorem dX3_block_29 : decode cX3_block 29 = .ok (.iload_n 1, 1) := by decide +kernel
theorem dX3_block_30 : decode cX3_block 30 = .ok (.invokevirtual 74, 3) := by decide +kernel
theorem dX3_block_33 : decode cX3_block 33 = .ok (.checkcast 51, 3) := by decide +kernel
theorem dX3_block_36 : decode cX3_block 36 = .ok (.astore 4, 2) := by decide +kernel
theorem dX3_block_38 : decode cX3_block 38 = .ok (.iload_n 3, 1) := by decide +kernel
theorem dX3_block_39 : decode cX3_block 39 = .ok (.tableswitch 49 0 2 #[25, 33, 41], 25) := by decide +kernel
theorem dX3_block_64 : decode cX3_block 64 = .ok (.aload 4, 2) := by decide +kernel
theorem dX3_block_66 : decode cX3_block 66 = .ok (.getfield 78, 3) := by decide +kernel
theorem dX3_block_69 : decode cX3_block 69 = .ok (.iload_n 2, 1) := by decide +kernel
theorem dX3_block_70 : decode cX3_block 70 = .ok (.iaload, 1) := by decide +kernel
theorem dX3_block_71 : decode cX3_block 71 = .ok (.ireturn, 1) := by decide +kernel
theorem dX3_block_72 : decode cX3_block 72 = .ok (.aload 4, 2) := by decide +kernel
theorem dX3_block_74 : decode cX3_block 74 = .ok (.getfield 169, 3) := by decide +kernel
theorem dX3_block_77 : decode cX3_block 77 = .ok (.iload_n 2, 1) := by decide +kernel
theorem dX3_block_78 : decode cX3_block 78 = .ok (.iaload, 1) := by decide +kernel
theorem dX3_block_79 : decode cX3_block 79 = .ok (.ireturn, 1) := by decide +kernel
theorem dX3_block_80 : decode cX3_block 80 = .ok (.aload 4, 2) := by decide +kernel
theorem dX3_block_82 : decode cX3_block 82 = .ok (.getfield 172, 3) := by decide +kernel
theorem dX3_block_85 : decode cX3_block 85 = .ok (.iload_n 2, 1) := by decide +kernel
theorem dX3_block_86 : decode cX3_block 86 = .ok (.iaload, 1) := by decide +kernel
theorem dX3_block_87 : decode cX3_block 87 = .ok (.ireturn, 1) := by decide +kernel
theorem dX3_block_88 : decode cX3_block 88 = .ok (.new 67, 3) := by decide +kernel
theorem dX3_block_91 : decode cX3_block 91 = .ok (.dup, 1) := by decide +kernel
theorem dX3_block_92 : decode cX3_block 92 = .ok (.ldc 175, 2) := by decide +kernel
theorem dX3_block_94 : decode cX3_block 94 = .ok (.invokespecial 71, 3) := by decide +kernel
theorem dX3_block_97 : decode cX3_block 97 = .ok (.athrow, 1) := by decide +kernel
theorem dX3_told_0 : decode cX3_told 0 = .ok (.aload_n 0, 1) := by decide +kernel
theorem dX3_told_1 : decode cX3_told 1 = .ok (.iload_n 1, 1) := by decide +kernel
theorem dX3_told_2 : decode cX3_told 2 = .ok (.invokevirtual 112, 3) := by decide +kernel
theorem dX3_told_5 : decode cX3_told 5 = .ok (.ifCond .ne 13, 3) := by decide +kernel
theorem dX3_told_8 : decode cX3_told 8 = .ok (.new 67, 3) := by decide +kernel
theorem dX3_told_11 : decode cX3_told 11 = .ok (.dup, 1) := by decide +kernel
theorem dX3_told_12 : decode cX3_told 12 = .ok (.ldc 115, 2) := by decide +kernel
theorem dX3_told_14 : decode cX3_told 14 = .ok (.invokespecial 71, 3) := by decide +kernel
theorem dX3_told_17 : decode cX3_told 17 = .ok (.athrow, 1) := by decide +kernel
theorem dX3_told_18 : decode cX3_told 18 = .ok (.aload_n 0, 1) := by decide +kernel
theorem dX3_told_19 : decode cX3_told 19 = .ok (.getfield 16, 3) := by decide +kernel
theorem dX3_told_22 : decode cX3_told 22 = .ok (.iload_n 1, 1) := by decide +kernel
theorem dX3_told_23 : decode cX3_told 23 = .ok (.invokevirtual 74, 3) := by decide +kernel
theorem dX3_told_26 : decode cX3_told 26 = .ok (.checkcast 109, 3) := by decide +kernel
theorem dX3_told_29 : decode cX3_told 29 = .ok (.astore_n 3, 1) := by decide +kernel
theorem dX3_told_30 : decode cX3_told 30 = .ok (.iload_n 2, 1) := by decide +kernel
theorem dX3_told_31 : decode cX3_told 31 = .ok (.tableswitch 119 0 7 #[45, 50, 55, 63, 68, 81, 97, 102], 45) := by decide +kernel
theorem dX3_told_76 : decode cX3_told 76 = .ok (.aload_n 3, 1) := by decide +kernel
theorem dX3_told_77 : decode cX3_told 77 = .ok (.getfield 177, 3) := by decide +kernel
theorem dX3_told_80 : decode cX3_told 80 = .ok (.ireturn, 1) := by decide +kernel
theorem dX3_told_81 : decode cX3_told 81 = .ok (.aload_n 3, 1) := by decide +kernel
theorem dX3_told_82 : decode cX3_told 82 = .ok (.getfield 180, 3) := by decide +kernel
theorem dX3_told_85 : decode cX3_told 85 = .ok (.ireturn, 1) := by decide +kernel
theorem dX3_told_86 : decode cX3_told 86 = .ok (.aload_n 3, 1) := by decide +kernel
theorem dX3_told_87 : decode cX3_told 87 = .ok (.getfield 124, 3) := by decide +kernel
theorem dX3_told_90 : decode cX3_told 90 = .ok (.invokevirtual 42, 3) := by decide +kernel
theorem dX3_told_93 : decode cX3_told 93 = .ok (.ireturn, 1) := by decide +kernel
theorem dX3_told_94 : decode cX3_told 94 = .ok (.aload_n 3, 1) := by decide +kernel
theorem dX3_told_95 : decode cX3_told 95 = .ok (.invokevirtual 183, 3) := by decide +kernel
theorem dX3_told_98 : decode cX3_told 98 = .ok (.ireturn, 1) := by decide +kernel
theorem dX3_told_99 : decode cX3_told 99 = .ok (.aload_n 3, 1) := by decide +kernel
theorem dX3_told_100 : decode cX3_told 100 = .ok (.getfield 120, 3) := by decide +kernel
theorem dX3_told_103 : decode cX3_told 103 = .ok (.ifCond .eq 7, 3) := by decide +kernel
theorem dX3_told_106 : decode cX3_told 106 = .ok (.iconst 1, 1) := by decide +kernel
theorem dX3_told_107 : decode cX3_told 107 = .ok (.goto 4, 3) := by decide +kernel
theorem dX3_told_110 : decode cX3_told 110 = .ok (.iconst 0, 1) := by decide +kernel
theorem dX3_told_111 : decode cX3_told 111 = .ok (.ireturn, 1) := by decide +kernel
theorem dX3_told_112 : decode cX3_told 112 = .ok (.aload_n 3, 1) := by decide +kernel
theorem dX3_told_113 : decode cX3_told 113 = .ok (.getfield 120, 3) := by decide +kernel
theorem dX3_told_116 : decode cX3_told 116 = .ok (.ifCond .eq 10, 3) := by decide +kernel
theorem dX3_told_119 : decode cX3_told 119 = .ok (.aload_n 3, 1) := by decide +kernel
theorem dX3_told_120 : decode cX3_told 120 = .ok (.invokevirtual 186, 3) := by decide +kernel
theorem dX3_told_123 : decode cX3_told 123 = .ok (.goto 4, 3) := by decide +kernel
theorem dX3_told_126 : decode cX3_told 126 = .ok (.iconst 0, 1) := by decide +kernel
theorem dX3_told_127 : decode cX3_told 127 = .ok (.ireturn, 1) := by decide +kernel
theorem dX3_told_128 : decode cX3_told 128 = .ok (.aload_n 3, 1) := by decide +kernel
theorem dX3_told_129 : decode cX3_told 129 = .ok (.getfield 153, 3) := by decide +kernel
theorem dX3_told_132 : decode cX3_told 132 = .ok (.ireturn, 1) := by decide +kernel
theorem dX3_told_133 : decode cX3_told 133 = .ok (.aload_n 3, 1) := by decide +kernel
theorem dX3_told_134 : decode cX3_told 134 = .ok (.getfield 120, 3) := by decide +kernel
theorem dX3_told_137 : decode cX3_told 137 = .ok (.ifCond .eq 11, 3) := by decide +kernel
theorem dX3_told_140 : decode cX3_told 140 = .ok (.aload_n 0, 1) := by decide +kernel
theorem dX3_told_141 : decode cX3_told 141 = .ok (.aload_n 3, 1) := by decide +kernel
theorem dX3_told_142 : decode cX3_told 142 = .ok (.invokevirtual 150, 3) := by decide +kernel
theorem dX3_told_145 : decode cX3_told 145 = .ok (.goto 4, 3) := by decide +kernel
theorem dX3_told_148 : decode cX3_told 148 = .ok (.iconst 0, 1) := by decide +kernel
theorem dX3_told_149 : decode cX3_told 149 = .ok (.ireturn, 1) := by decide +kernel
theorem dX3_told_150 : decode cX3_told 150 = .ok (.new 67, 3) := by decide +kernel
theorem dX3_told_153 : decode cX3_told 153 = .ok (.dup, 1) := by decide +kernel
theorem dX3_told_154 : decode cX3_told 154 = .ok (.ldc 189, 2) := by decide +kernel
theorem dX3_told_156 : decode cX3_told 156 = .ok (.invokespecial 71, 3) := by decide +kernel
theorem dX3_told_159 : decode cX3_told 159 = .ok (.athrow, 1) := by decide +kernel
theorem dX3_about_0 : decode cX3_about 0 = .ok (.aload_n 0, 1) := by decide +kernel
theorem dX3_about_1 : decode cX3_about 1 = .ok (.iload_n 1, 1) := by decide +kernel
theorem dX3_about_2 : decode cX3_about 2 = .ok (.invokevirtual 112, 3) := by decide +kernel
theorem dX3_about_5 : decode cX3_about 5 = .ok (.ifCond .ne 13, 3) := by decide +kernel
theorem dX3_about_8 : decode cX3_about 8 = .ok (.new 67, 3) := by decide +kernel
theorem dX3_about_11 : decode cX3_about 11 = .ok (.dup, 1) := by decide +kernel
theorem dX3_about_12 : decode cX3_about 12 = .ok (.ldc 115, 2) := by decide +kernel
theorem dX3_about_14 : decode cX3_about 14 = .ok (.invokespecial 71, 3) := by decide +kernel
theorem dX3_about_17 : decode cX3_about 17 = .ok (.athrow, 1) := by decide +kernel
theorem dX3_about_18 : decode cX3_about 18 = .ok (.aload_n 0, 1) := by decide +kernel
theorem dX3_about_19 : decode cX3_about 19 = .ok (.getfield 16, 3) := by decide +kernel
theorem dX3_about_22 : decode cX3_about 22 = .ok (.iload_n 1, 1) := by decide +kernel
theorem dX3_about_23 : decode cX3_about 23 = .ok (.invokevirtual 74, 3) := by decide +kernel
theorem dX3_about_26 : decode cX3_about 26 = .ok (.checkcast 109, 3) := by decide +kernel
theorem dX3_about_29 : decode cX3_about 29 = .ok (.astore 4, 2) := by decide +kernel
theorem dX3_about_31 : decode cX3_about 31 = .ok (.iload_n 2, 1) := by decide +kernel
theorem dX3_about_32 : decode cX3_about 32 = .ok (.ifCond .lt 15, 3) := by decide +kernel
theorem dX3_about_35 : decode cX3_about 35 = .ok (.iload_n 2, 1) := by decide +kernel
theorem dX3_about_36 : decode cX3_about 36 = .ok (.aload 4, 2) := by decide +kernel
theorem dX3_about_38 : decode cX3_about 38 = .ok (.getfield 124, 3) := by decide +kernel
theorem dX3_about_41 : decode cX3_about 41 = .ok (.invokevirtual 42, 3) := by decide +kernel
theorem dX3_about_44 : decode cX3_about 44 = .ok (.if_icmp .lt 13, 3) := by decide +kernel
theorem dX3_about_47 : decode cX3_about 47 = .ok (.new 67, 3) := by decide +kernel
theorem dX3_about_50 : decode cX3_about 50 = .ok (.dup, 1) := by decide +kernel
theorem dX3_about_51 : decode cX3_about 51 = .ok (.ldc 191, 2) := by decide +kernel
theorem dX3_about_53 : decode cX3_about 53 = .ok (.invokespecial 71, 3) := by decide +kernel
theorem dX3_about_56 : decode cX3_about 56 = .ok (.athrow, 1) := by decide +kernel
theorem dX3_about_57 : decode cX3_about 57 = .ok (.aload 4, 2) := by decide +kernel
theorem dX3_about_59 : decode cX3_about 59 = .ok (.getfield 124, 3) := by decide +kernel
theorem dX3_about_62 : decode cX3_about 62 = .ok (.iload_n 2, 1) := by decide +kernel
theorem dX3_about_63 : decode cX3_about 63 = .ok (.invokevirtual 74, 3) := by decide +kernel
theorem dX3_about_66 : decode cX3_about 66 = .ok (.checkcast 129, 3) := by decide +kernel
theorem dX3_about_69 : decode cX3_about 69 = .ok (.astore 5, 2) := by decide +kernel
theorem dX3_about_71 : decode cX3_about 71 = .ok (.iload_n 3, 1) := by decide +kernel
theorem dX3_about_72 : decode cX3_about 72 = .ok (.tableswitch 92 0 3 #[32, 38, 56, 74], 32) := by decide +kernel
theorem dX3_about_104 : decode cX3_about 104 = .ok (.aload 5, 2) := by decide +kernel
theorem dX3_about_106 : decode cX3_about 106 = .ok (.getfield 193, 3) := by decide +kernel
theorem dX3_about_109 : decode cX3_about 109 = .ok (.ireturn, 1) := by decide +kernel
theorem dX3_about_110 : decode cX3_about 110 = .ok (.aload 4, 2) := by decide +kernel
theorem dX3_about_112 : decode cX3_about 112 = .ok (.getfield 120, 3) := by decide +kernel
theorem dX3_about_115 : decode cX3_about 115 = .ok (.ifCond .eq 11, 3) := by decide +kernel
theorem dX3_about_118 : decode cX3_about 118 = .ok (.aload 5, 2) := by decide +kernel
theorem dX3_about_120 : decode cX3_about 120 = .ok (.invokevirtual 195, 3) := by decide +kernel
theorem dX3_about_123 : decode cX3_about 123 = .ok (.goto 4, 3) := by decide +kernel
theorem dX3_about_126 : decode cX3_about 126 = .ok (.iconst (-1), 1) := by decide +kernel
theorem dX3_about_127 : decode cX3_about 127 = .ok (.ireturn, 1) := by decide +kernel
theorem dX3_about_128 : decode cX3_about 128 = .ok (.aload 4, 2) := by decide +kernel
theorem dX3_about_130 : decode cX3_about 130 = .ok (.getfield 120, 3) := by decide +kernel
theorem dX3_about_133 : decode cX3_about 133 = .ok (.ifCond .eq 11, 3) := by decide +kernel
theorem dX3_about_136 : decode cX3_about 136 = .ok (.aload 5, 2) := by decide +kernel
theorem dX3_about_138 : decode cX3_about 138 = .ok (.getfield 198, 3) := by decide +kernel
theorem dX3_about_141 : decode cX3_about 141 = .ok (.goto 4, 3) := by decide +kernel
theorem dX3_about_144 : decode cX3_about 144 = .ok (.iconst (-1), 1) := by decide +kernel
theorem dX3_about_145 : decode cX3_about 145 = .ok (.ireturn, 1) := by decide +kernel
theorem dX3_about_146 : decode cX3_about 146 = .ok (.aload 4, 2) := by decide +kernel
theorem dX3_about_148 : decode cX3_about 148 = .ok (.getfield 120, 3) := by decide +kernel
theorem dX3_about_151 : decode cX3_about 151 = .ok (.ifCond .eq 11, 3) := by decide +kernel
theorem dX3_about_154 : decode cX3_about 154 = .ok (.aload 5, 2) := by decide +kernel
theorem dX3_about_156 : decode cX3_about 156 = .ok (.getfield 201, 3) := by decide +kernel
theorem dX3_about_159 : decode cX3_about 159 = .ok (.goto 4, 3) := by decide +kernel
theorem dX3_about_162 : decode cX3_about 162 = .ok (.iconst (-1), 1) := by decide +kernel
theorem dX3_about_163 : decode cX3_about 163 = .ok (.ireturn, 1) := by decide +kernel
theorem dX3_about_164 : decode cX3_about 164 = .ok (.new 67, 3) := by decide +kernel
theorem dX3_about_167 : decode cX3_about 167 = .ok (.dup, 1) := by decide +kernel
theorem dX3_about_168 : decode cX3_about 168 = .ok (.ldc 204, 2) := by decide +kernel
theorem dX3_about_170 : decode cX3_about 170 = .ok (.invokespecial 71, 3) := by decide +kernel
theorem dX3_about_173 : decode cX3_about 173 = .ok (.athrow, 1) := by decide +kernel
theorem dX3_count_0 : decode cX3_count 0 = .ok (.iload_n 1, 1) := by decide +kernel
theorem dX3_count_1 : decode cX3_count 1 = .ok (.tableswitch 89 0 6 #[43, 51, 59, 64, 69, 74, 79], 43) := by decide +kernel
theorem dX3_count_44 : decode cX3_count 44 = .ok (.aload_n 0, 1) := by decide +kernel
theorem dX3_count_45 : decode cX3_count 45 = .ok (.getfield 10, 3) := by decide +kernel
theorem dX3_count_48 : decode cX3_count 48 = .ok (.invokevirtual 42, 3) := by decide +kernel
theorem dX3_count_51 : decode cX3_count 51 = .ok (.ireturn, 1) := by decide +kernel
theorem dX3_count_52 : decode cX3_count 52 = .ok (.aload_n 0, 1) := by decide +kernel
theorem dX3_count_53 : decode cX3_count 53 = .ok (.getfield 16, 3) := by decide +kernel
theorem dX3_count_56 : decode cX3_count 56 = .ok (.invokevirtual 42, 3) := by decide +kernel
theorem dX3_count_59 : decode cX3_count 59 = .ok (.ireturn, 1) := by decide +kernel
theorem dX3_count_60 : decode cX3_count 60 = .ok (.aload_n 0, 1) := by decide +kernel
theorem dX3_count_61 : decode cX3_count 61 = .ok (.invokevirtual 206, 3) := by decide +kernel
theorem dX3_count_64 : decode cX3_count 64 = .ok (.ireturn, 1) := by decide +kernel
theorem dX3_count_65 : decode cX3_count 65 = .ok (.aload_n 0, 1) := by decide +kernel
theorem dX3_count_66 : decode cX3_count 66 = .ok (.getfield 157, 3) := by decide +kernel
theorem dX3_count_69 : decode cX3_count 69 = .ok (.ireturn, 1) := by decide +kernel
theorem dX3_count_70 : decode cX3_count 70 = .ok (.aload_n 0, 1) := by decide +kernel
theorem dX3_count_71 : decode cX3_count 71 = .ok (.getfield 166, 3) := by decide +kernel
theorem dX3_count_74 : decode cX3_count 74 = .ok (.ireturn, 1) := by decide +kernel
theorem dX3_count_75 : decode cX3_count 75 = .ok (.aload_n 0, 1) := by decide +kernel
theorem dX3_count_76 : decode cX3_count 76 = .ok (.invokevirtual 209, 3) := by decide +kernel
theorem dX3_count_79 : decode cX3_count 79 = .ok (.ireturn, 1) := by decide +kernel
theorem dX3_count_80 : decode cX3_count 80 = .ok (.aload_n 0, 1) := by decide +kernel
theorem dX3_count_81 : decode cX3_count 81 = .ok (.invokevirtual 209, 3) := by decide +kernel
theorem dX3_count_84 : decode cX3_count 84 = .ok (.aload_n 0, 1) := by decide +kernel
theorem dX3_count_85 : decode cX3_count 85 = .ok (.invokevirtual 212, 3) := by decide +kernel
theorem dX3_count_88 : decode cX3_count 88 = .ok (.isub, 1) := by decide +kernel
theorem dX3_count_89 : decode cX3_count 89 = .ok (.ireturn, 1) := by decide +kernel
theorem dX3_count_90 : decode cX3_count 90 = .ok (.new 67, 3) := by decide +kernel
theorem dX3_count_93 : decode cX3_count 93 = .ok (.dup, 1) := by decide +kernel
theorem dX3_count_94 : decode cX3_count 94 = .ok (.ldc 215, 2) := by decide +kernel
theorem dX3_count_96 : decode cX3_count 96 = .ok (.invokespecial 71, 3) := by decide +kernel
theorem dX3_count_99 : decode cX3_count 99 = .ok (.athrow, 1) := by decide +kernel
theorem dX3_would_0 : decode cX3_would 0 = .ok (.aload_n 0, 1) := by decide +kernel
theorem dX3_would_1 : decode cX3_would 1 = .ok (.iload_n 1, 1) := by decide +kernel
theorem dX3_would_2 : decode cX3_would 2 = .ok (.invokevirtual 112, 3) := by decide +kernel
theorem dX3_would_5 : decode cX3_would 5 = .ok (.ifCond .eq 12, 3) := by decide +kernel
theorem dX3_would_8 : decode cX3_would 8 = .ok (.iload_n 2, 1) := by decide +kernel
theorem dX3_would_9 : decode cX3_would 9 = .ok (.ifCond .lt 8, 3) := by decide +kernel
theorem dX3_would_12 : decode cX3_would 12 = .ok (.iload_n 2, 1) := by decide +kernel
theorem dX3_would_13 : decode cX3_would 13 = .ok (.iconst 1, 1) := by decide +kernel
theorem dX3_would_14 : decode cX3_would 14 = .ok (.if_icmp .le 13, 3) := by decide +kernel
theorem dX3_would_17 : decode cX3_would 17 = .ok (.new 67, 3) := by decide +kernel
theorem dX3_would_20 : decode cX3_would 20 = .ok (.dup, 1) := by decide +kernel
theorem dX3_would_21 : decode cX3_would 21 = .ok (.ldc 217, 2) := by decide +kernel
theorem dX3_would_23 : decode cX3_would 23 = .ok (.invokespecial 71, 3) := by decide +kernel
theorem dX3_would_26 : decode cX3_would 26 = .ok (.athrow, 1) := by decide +kernel
theorem dX3_would_27 : decode cX3_would 27 = .ok (.aload_n 0, 1) := by decide +kernel
theorem dX3_would_28 : decode cX3_would 28 = .ok (.getfield 16, 3) := by decide +kernel
theorem dX3_would_31 : decode cX3_would 31 = .ok (.iload_n 1, 1) := by decide +kernel
theorem dX3_would_32 : decode cX3_would 32 = .ok (.invokevirtual 74, 3) := by decide +kernel
theorem dX3_would_35 : decode cX3_would 35 = .ok (.checkcast 109, 3) := by decide +kernel
theorem dX3_would_38 : decode cX3_would 38 = .ok (.astore_n 3, 1) := by decide +kernel
theorem dX3_would_39 : decode cX3_would 39 = .ok (.iload_n 2, 1) := by decide +kernel
theorem dX3_would_40 : decode cX3_would 40 = .ok (.ifCond .ne 11, 3) := by decide +kernel
theorem dX3_would_43 : decode cX3_would 43 = .ok (.aload_n 0, 1) := by decide +kernel
theorem dX3_would_44 : decode cX3_would 44 = .ok (.aload_n 3, 1) := by decide +kernel
theorem dX3_would_45 : decode cX3_would 45 = .ok (.invokevirtual 219, 3) := by decide +kernel
theorem dX3_would_48 : decode cX3_would 48 = .ok (.goto 8, 3) := by decide +kernel
theorem dX3_would_51 : decode cX3_would 51 = .ok (.aload_n 0, 1) := by decide +kernel
theorem dX3_would_52 : decode cX3_would 52 = .ok (.aload_n 3, 1) := by decide +kernel
theorem dX3_would_53 : decode cX3_would 53 = .ok (.invokevirtual 134, 3) := by decide +kernel
theorem dX3_would_56 : decode cX3_would 56 = .ok (.ireturn, 1) := by decide +kernel
theorem dX3_next_0 : decode cX3_next 0 = .ok (.iconst (-1), 1) := by decide +kernel
theorem dX3_next_1 : decode cX3_next 1 = .ok (.istore_n 1, 1) := by decide +kernel
theorem dX3_next_2 : decode cX3_next 2 = .ok (.iconst (-1), 1) := by decide +kernel
theorem dX3_next_3 : decode cX3_next 3 = .ok (.istore_n 2, 1) := by decide +kernel
theorem dX3_next_4 : decode cX3_next 4 = .ok (.iconst 0, 1) := by decide +kernel
theorem dX3_next_5 : decode cX3_next 5 = .ok (.istore_n 3, 1) := by decide +kernel
theorem dX3_next_6 : decode cX3_next 6 = .ok (.iload_n 3, 1) := by decide +kernel
theorem dX3_next_7 : decode cX3_next 7 = .ok (.aload_n 0, 1) := by decide +kernel
theorem dX3_next_8 : decode cX3_next 8 = .ok (.getfield 16, 3) := by decide +kernel
theorem dX3_next_11 : decode cX3_next 11 = .ok (.invokevirtual 42, 3) := by decide +kernel
theorem dX3_next_14 : decode cX3_next 14 = .ok (.if_icmp .ge 37, 3) := by decide +kernel
theorem dX3_next_17 : decode cX3_next 17 = .ok (.aload_n 0, 1) := by decide +kernel
theorem dX3_next_18 : decode cX3_next 18 = .ok (.aload_n 0, 1) := by decide +kernel
theorem dX3_next_19 : decode cX3_next 19 = .ok (.getfield 16, 3) := by decide +kernel
theorem dX3_next_22 : decode cX3_next 22 = .ok (.iload_n 3, 1) := by decide +kernel
theorem dX3_next_23 : decode cX3_next 23 = .ok (.invokevirtual 74, 3) := by decide +kernel
theorem dX3_next_26 : decode cX3_next 26 = .ok (.checkcast 109, 3) := by decide +kernel
theorem dX3_next_29 : decode cX3_next 29 = .ok (.invokevirtual 219, 3) := by decide +kernel
theorem dX3_next_32 : decode cX3_next 32 = .ok (.istore 4, 2) := by decide +kernel
theorem dX3_next_34 : decode cX3_next 34 = .ok (.iload 4, 2) := by decide +kernel
theorem dX3_next_36 : decode cX3_next 36 = .ok (.iload_n 2, 1) := by decide +kernel
theorem dX3_next_37 : decode cX3_next 37 = .ok (.if_icmp .le 8, 3) := by decide +kernel
theorem dX3_next_40 : decode cX3_next 40 = .ok (.iload_n 3, 1) := by decide +kernel
theorem dX3_next_41 : decode cX3_next 41 = .ok (.istore_n 1, 1) := by decide +kernel
theorem dX3_next_42 : decode cX3_next 42 = .ok (.iload 4, 2) := by decide +kernel
theorem dX3_next_44 : decode cX3_next 44 = .ok (.istore_n 2, 1) := by decide +kernel
theorem dX3_next_45 : decode cX3_next 45 = .ok (.iinc 3 1, 3) := by decide +kernel
theorem dX3_next_48 : decode cX3_next 48 = .ok (.goto (-42), 3) := by decide +kernel
theorem dX3_next_51 : decode cX3_next 51 = .ok (.iload_n 1, 1) := by decide +kernel
theorem dX3_next_52 : decode cX3_next 52 = .ok (.ireturn, 1) := by decide +kernel
theorem dX3_advise_0 : decode cX3_advise 0 = .ok (.aload_n 0, 1) := by decide +kernel
theorem dX3_advise_1 : decode cX3_advise 1 = .ok (.iload_n 1, 1) := by decide +kernel
theorem dX3_advise_2 : decode cX3_advise 2 = .ok (.invokevirtual 112, 3) := by decide +kernel
theorem dX3_advise_5 : decode cX3_advise 5 = .ok (.ifCond .ne 13, 3) := by decide +kernel
theorem dX3_advise_8 : decode cX3_advise 8 = .ok (.new 67, 3) := by decide +kernel
theorem dX3_advise_11 : decode cX3_advise 11 = .ok (.dup, 1) := by decide +kernel
theorem dX3_advise_12 : decode cX3_advise 12 = .ok (.ldc 115, 2) := by decide +kernel
theorem dX3_advise_14 : decode cX3_advise 14 = .ok (.invokespecial 71, 3) := by decide +kernel
theorem dX3_advise_17 : decode cX3_advise 17 = .ok (.athrow, 1) := by decide +kernel
theorem dX3_advise_18 : decode cX3_advise 18 = .ok (.aload_n 0, 1) := by decide +kernel
theorem dX3_advise_19 : decode cX3_advise 19 = .ok (.getfield 16, 3) := by decide +kernel
theorem dX3_advise_22 : decode cX3_advise 22 = .ok (.iload_n 1, 1) := by decide +kernel
theorem dX3_advise_23 : decode cX3_advise 23 = .ok (.invokevirtual 74, 3) := by decide +kernel
theorem dX3_advise_26 : decode cX3_advise 26 = .ok (.checkcast 109, 3) := by decide +kernel
theorem dX3_advise_29 : decode cX3_advise 29 = .ok (.astore_n 2, 1) := by decide +kernel
theorem dX3_advise_30 : decode cX3_advise 30 = .ok (.aload_n 2, 1) := by decide +kernel
theorem dX3_advise_31 : decode cX3_advise 31 = .ok (.invokevirtual 222, 3) := by decide +kernel
theorem dX3_advise_34 : decode cX3_advise 34 = .ok (.ifCond .ne 5, 3) := by decide +kernel
theorem dX3_advise_37 : decode cX3_advise 37 = .ok (.iconst (-1), 1) := by decide +kernel
theorem dX3_advise_38 : decode cX3_advise 38 = .ok (.ireturn, 1) := by decide +kernel
theorem dX3_advise_39 : decode cX3_advise 39 = .ok (.iconst (-1), 1) := by decide +kernel
theorem dX3_advise_40 : decode cX3_advise 40 = .ok (.istore_n 3, 1) := by decide +kernel
theorem dX3_advise_41 : decode cX3_advise 41 = .ok (.aload_n 0, 1) := by decide +kernel
theorem dX3_advise_42 : decode cX3_advise 42 = .ok (.aload_n 2, 1) := by decide +kernel
theorem dX3_advise_43 : decode cX3_advise 43 = .ok (.invokevirtual 134, 3) := by decide +kernel
theorem dX3_advise_46 : decode cX3_advise 46 = .ok (.istore 4, 2) := by decide +kernel
theorem dX3_advise_48 : decode cX3_advise 48 = .ok (.iconst 0, 1) := by decide +kernel
theorem dX3_advise_49 : decode cX3_advise 49 = .ok (.istore 5, 2) := by decide +kernel
theorem dX3_advise_51 : decode cX3_advise 51 = .ok (.iload 5, 2) := by decide +kernel
theorem dX3_advise_53 : decode cX3_advise 53 = .ok (.aload_n 0, 1) := by decide +kernel
theorem dX3_advise_54 : decode cX3_advise 54 = .ok (.getfield 10, 3) := by decide +kernel
theorem dX3_advise_57 : decode cX3_advise 57 = .ok (.invokevirtual 42, 3) := by decide +kernel
theorem dX3_advise_60 : decode cX3_advise 60 = .ok (.if_icmp .ge 69, 3) := by decide +kernel
theorem dX3_advise_63 : decode cX3_advise 63 = .ok (.iconst 0, 1) := by decide +kernel
theorem dX3_advise_64 : decode cX3_advise 64 = .ok (.istore 6, 2) := by decide +kernel
theorem dX3_advise_66 : decode cX3_advise 66 = .ok (.iload 6, 2) := by decide +kernel
theorem dX3_advise_68 : decode cX3_advise 68 = .ok (.bipush 10, 2) := by decide +kernel
theorem dX3_advise_70 : decode cX3_advise 70 = .ok (.if_icmp .ge 53, 3) := by decide +kernel
theorem dX3_advise_73 : decode cX3_advise 73 = .ok (.aload_n 0, 1) := by decide +kernel
theorem dX3_advise_74 : decode cX3_advise 74 = .ok (.aload_n 2, 1) := by decide +kernel
theorem dX3_advise_75 : decode cX3_advise 75 = .ok (.aload_n 0, 1) := by decide +kernel
theorem dX3_advise_76 : decode cX3_advise 76 = .ok (.getfield 10, 3) := by decide +kernel
theorem dX3_advise_79 : decode cX3_advise 79 = .ok (.iload 5, 2) := by decide +kernel
theorem dX3_advise_81 : decode cX3_advise 81 = .ok (.invokevirtual 74, 3) := by decide +kernel
theorem dX3_advise_84 : decode cX3_advise 84 = .ok (.checkcast 51, 3) := by decide +kernel
theorem dX3_advise_87 : decode cX3_advise 87 = .ok (.iload 6, 2) := by decide +kernel
theorem dX3_advise_89 : decode cX3_advise 89 = .ok (.invokevirtual 226, 3) := by decide +kernel
theorem dX3_advise_92 : decode cX3_advise 92 = .ok (.istore 7, 2) := by decide +kernel
theorem dX3_advise_94 : decode cX3_advise 94 = .ok (.iload 7, 2) := by decide +kernel
theorem dX3_advise_96 : decode cX3_advise 96 = .ok (.iload 4, 2) := by decide +kernel
theorem dX3_advise_98 : decode cX3_advise 98 = .ok (.invokestatic 230, 3) := by decide +kernel
theorem dX3_advise_101 : decode cX3_advise 101 = .ok (.ifCond .eq 16, 3) := by decide +kernel
theorem dX3_advise_104 : decode cX3_advise 104 = .ok (.bipush 10, 2) := by decide +kernel
theorem dX3_advise_106 : decode cX3_advise 106 = .ok (.iload 5, 2) := by decide +kernel
theorem dX3_advise_108 : decode cX3_advise 108 = .ok (.imul, 1) := by decide +kernel
theorem dX3_advise_109 : decode cX3_advise 109 = .ok (.iload 6, 2) := by decide +kernel
theorem dX3_advise_111 : decode cX3_advise 111 = .ok (.iadd, 1) := by decide +kernel
theorem dX3_advise_112 : decode cX3_advise 112 = .ok (.istore_n 3, 1) := by decide +kernel
theorem dX3_advise_113 : decode cX3_advise 113 = .ok (.iload 7, 2) := by decide +kernel
theorem dX3_advise_115 : decode cX3_advise 115 = .ok (.istore 4, 2) := by decide +kernel
theorem dX3_advise_117 : decode cX3_advise 117 = .ok (.iinc 6 1, 3) := by decide +kernel
theorem dX3_advise_120 : decode cX3_advise 120 = .ok (.goto (-54), 3) := by decide +kernel
theorem dX3_advise_123 : decode cX3_advise 123 = .ok (.iinc 5 1, 3) := by decide +kernel
theorem dX3_advise_126 : decode cX3_advise 126 = .ok (.goto (-75), 3) := by decide +kernel
theorem dX3_advise_129 : decode cX3_advise 129 = .ok (.iload_n 3, 1) := by decide +kernel
theorem dX3_advise_130 : decode cX3_advise 130 = .ok (.ireturn, 1) := by decide +kernel
theorem dX3_lasts_0 : decode cX3_lasts 0 = .ok (.aload_n 0, 1) := by decide +kernel
theorem dX3_lasts_1 : decode cX3_lasts 1 = .ok (.iload_n 1, 1) := by decide +kernel
theorem dX3_lasts_2 : decode cX3_lasts 2 = .ok (.invokevirtual 112, 3) := by decide +kernel
theorem dX3_lasts_5 : decode cX3_lasts 5 = .ok (.ifCond .ne 13, 3) := by decide +kernel
theorem dX3_lasts_8 : decode cX3_lasts 8 = .ok (.new 67, 3) := by decide +kernel
theorem dX3_lasts_11 : decode cX3_lasts 11 = .ok (.dup, 1) := by decide +kernel
theorem dX3_lasts_12 : decode cX3_lasts 12 = .ok (.ldc 115, 2) := by decide +kernel
theorem dX3_lasts_14 : decode cX3_lasts 14 = .ok (.invokespecial 71, 3) := by decide +kernel
theorem dX3_lasts_17 : decode cX3_lasts 17 = .ok (.athrow, 1) := by decide +kernel
theorem dX3_lasts_18 : decode cX3_lasts 18 = .ok (.aload_n 0, 1) := by decide +kernel
theorem dX3_lasts_19 : decode cX3_lasts 19 = .ok (.getfield 16, 3) := by decide +kernel
theorem dX3_lasts_22 : decode cX3_lasts 22 = .ok (.iload_n 1, 1) := by decide +kernel
theorem dX3_lasts_23 : decode cX3_lasts 23 = .ok (.invokevirtual 74, 3) := by decide +kernel
theorem dX3_lasts_26 : decode cX3_lasts 26 = .ok (.checkcast 109, 3) := by decide +kernel
theorem dX3_lasts_29 : decode cX3_lasts 29 = .ok (.astore_n 2, 1) := by decide +kernel
theorem dX3_lasts_30 : decode cX3_lasts 30 = .ok (.aload_n 2, 1) := by decide +kernel
theorem dX3_lasts_31 : decode cX3_lasts 31 = .ok (.getfield 120, 3) := by decide +kernel
theorem dX3_lasts_34 : decode cX3_lasts 34 = .ok (.ifCond .ne 13, 3) := by decide +kernel
theorem dX3_lasts_37 : decode cX3_lasts 37 = .ok (.new 46, 3) := by decide +kernel
theorem dX3_lasts_40 : decode cX3_lasts 40 = .ok (.dup, 1) := by decide +kernel
theorem dX3_lasts_41 : decode cX3_lasts 41 = .ok (.ldc 145, 2) := by decide +kernel
theorem dX3_lasts_43 : decode cX3_lasts 43 = .ok (.invokespecial 50, 3) := by decide +kernel
theorem dX3_lasts_46 : decode cX3_lasts 46 = .ok (.athrow, 1) := by decide +kernel
theorem dX3_lasts_47 : decode cX3_lasts 47 = .ok (.sipush 400, 3) := by decide +kernel
theorem dX3_lasts_50 : decode cX3_lasts 50 = .ok (.istore_n 3, 1) := by decide +kernel
theorem dX3_lasts_51 : decode cX3_lasts 51 = .ok (.iconst 0, 1) := by decide +kernel
theorem dX3_lasts_52 : decode cX3_lasts 52 = .ok (.istore 4, 2) := by decide +kernel
theorem dX3_lasts_54 : decode cX3_lasts 54 = .ok (.iload 4, 2) := by decide +kernel
theorem dX3_lasts_56 : decode cX3_lasts 56 = .ok (.aload_n 0, 1) := by decide +kernel
theorem dX3_lasts_57 : decode cX3_lasts 57 = .ok (.getfield 10, 3) := by decide +kernel
theorem dX3_lasts_60 : decode cX3_lasts 60 = .ok (.invokevirtual 42, 3) := by decide +kernel
theorem dX3_lasts_63 : decode cX3_lasts 63 = .ok (.if_icmp .ge 48, 3) := by decide +kernel
theorem dX3_lasts_66 : decode cX3_lasts 66 = .ok (.iconst 0, 1) := by decide +kernel
theorem dX3_lasts_67 : decode cX3_lasts 67 = .ok (.istore 5, 2) := by decide +kernel
theorem dX3_lasts_69 : decode cX3_lasts 69 = .ok (.iload 5, 2) := by decide +kernel
theorem dX3_lasts_71 : decode cX3_lasts 71 = .ok (.bipush 10, 2) := by decide +kernel
theorem dX3_lasts_73 : decode cX3_lasts 73 = .ok (.if_icmp .ge 32, 3) := by decide +kernel
theorem dX3_lasts_76 : decode cX3_lasts 76 = .ok (.iload_n 3, 1) := by decide +kernel
theorem dX3_lasts_77 : decode cX3_lasts 77 = .ok (.aload_n 2, 1) := by decide +kernel
theorem dX3_lasts_78 : decode cX3_lasts 78 = .ok (.aload_n 0, 1) := by decide +kernel
theorem dX3_lasts_79 : decode cX3_lasts 79 = .ok (.getfield 10, 3) := by decide +kernel
theorem dX3_lasts_82 : decode cX3_lasts 82 = .ok (.iload 4, 2) := by decide +kernel
theorem dX3_lasts_84 : decode cX3_lasts 84 = .ok (.invokevirtual 74, 3) := by decide +kernel
theorem dX3_lasts_87 : decode cX3_lasts 87 = .ok (.checkcast 51, 3) := by decide +kernel
theorem dX3_lasts_90 : decode cX3_lasts 90 = .ok (.iload 5, 2) := by decide +kernel
theorem dX3_lasts_92 : decode cX3_lasts 92 = .ok (.invokestatic 234, 3) := by decide +kernel
theorem dX3_lasts_95 : decode cX3_lasts 95 = .ok (.invokestatic 88, 3) := by decide +kernel
theorem dX3_lasts_98 : decode cX3_lasts 98 = .ok (.istore_n 3, 1) := by decide +kernel
theorem dX3_lasts_99 : decode cX3_lasts 99 = .ok (.iinc 5 1, 3) := by decide +kernel
theorem dX3_lasts_102 : decode cX3_lasts 102 = .ok (.goto (-33), 3) := by decide +kernel
theorem dX3_lasts_105 : decode cX3_lasts 105 = .ok (.iinc 4 1, 3) := by decide +kernel
theorem dX3_lasts_108 : decode cX3_lasts 108 = .ok (.goto (-54), 3) := by decide +kernel
theorem dX3_lasts_111 : decode cX3_lasts 111 = .ok (.iload_n 3, 1) := by decide +kernel
theorem dX3_lasts_112 : decode cX3_lasts 112 = .ok (.ireturn, 1) := by decide +kernel
theorem dX3_mean_0 : decode cX3_mean 0 = .ok (.iconst 0, 1) := by decide +kernel
theorem dX3_mean_1 : decode cX3_mean 1 = .ok (.istore_n 1, 1) := by decide +kernel
theorem dX3_mean_2 : decode cX3_mean 2 = .ok (.iconst 0, 1) := by decide +kernel
theorem dX3_mean_3 : decode cX3_mean 3 = .ok (.istore_n 2, 1) := by decide +kernel
theorem dX3_mean_4 : decode cX3_mean 4 = .ok (.iconst 0, 1) := by decide +kernel
theorem dX3_mean_5 : decode cX3_mean 5 = .ok (.istore_n 3, 1) := by decide +kernel
theorem dX3_mean_6 : decode cX3_mean 6 = .ok (.iload_n 3, 1) := by decide +kernel
theorem dX3_mean_7 : decode cX3_mean 7 = .ok (.aload_n 0, 1) := by decide +kernel
theorem dX3_mean_8 : decode cX3_mean 8 = .ok (.getfield 16, 3) := by decide +kernel
theorem dX3_mean_11 : decode cX3_mean 11 = .ok (.invokevirtual 42, 3) := by decide +kernel
theorem dX3_mean_14 : decode cX3_mean 14 = .ok (.if_icmp .ge 46, 3) := by decide +kernel
theorem dX3_mean_17 : decode cX3_mean 17 = .ok (.aload_n 0, 1) := by decide +kernel
theorem dX3_mean_18 : decode cX3_mean 18 = .ok (.getfield 16, 3) := by decide +kernel
theorem dX3_mean_21 : decode cX3_mean 21 = .ok (.iload_n 3, 1) := by decide +kernel
theorem dX3_mean_22 : decode cX3_mean 22 = .ok (.invokevirtual 74, 3) := by decide +kernel
theorem dX3_mean_25 : decode cX3_mean 25 = .ok (.checkcast 109, 3) := by decide +kernel
theorem dX3_mean_28 : decode cX3_mean 28 = .ok (.astore 4, 2) := by decide +kernel
theorem dX3_mean_30 : decode cX3_mean 30 = .ok (.aload 4, 2) := by decide +kernel
theorem dX3_mean_32 : decode cX3_mean 32 = .ok (.getfield 120, 3) := by decide +kernel
theorem dX3_mean_35 : decode cX3_mean 35 = .ok (.ifCond .eq 19, 3) := by decide +kernel
theorem dX3_mean_38 : decode cX3_mean 38 = .ok (.iload_n 1, 1) := by decide +kernel
theorem dX3_mean_39 : decode cX3_mean 39 = .ok (.aload 4, 2) := by decide +kernel
theorem dX3_mean_41 : decode cX3_mean 41 = .ok (.invokevirtual 186, 3) := by decide +kernel
theorem dX3_mean_44 : decode cX3_mean 44 = .ok (.iadd, 1) := by decide +kernel
theorem dX3_mean_45 : decode cX3_mean 45 = .ok (.istore_n 1, 1) := by decide +kernel
theorem dX3_mean_46 : decode cX3_mean 46 = .ok (.iload_n 2, 1) := by decide +kernel
theorem dX3_mean_47 : decode cX3_mean 47 = .ok (.aload 4, 2) := by decide +kernel
theorem dX3_mean_49 : decode cX3_mean 49 = .ok (.invokevirtual 183, 3) := by decide +kernel
theorem dX3_mean_52 : decode cX3_mean 52 = .ok (.iadd, 1) := by decide +kernel
theorem dX3_mean_53 : decode cX3_mean 53 = .ok (.istore_n 2, 1) := by decide +kernel
theorem dX3_mean_54 : decode cX3_mean 54 = .ok (.iinc 3 1, 3) := by decide +kernel
theorem dX3_mean_57 : decode cX3_mean 57 = .ok (.goto (-51), 3) := by decide +kernel
theorem dX3_mean_60 : decode cX3_mean 60 = .ok (.iload_n 2, 1) := by decide +kernel
theorem dX3_mean_61 : decode cX3_mean 61 = .ok (.ifCond .le 11, 3) := by decide +kernel
theorem dX3_mean_64 : decode cX3_mean 64 = .ok (.iload_n 1, 1) := by decide +kernel
theorem dX3_mean_65 : decode cX3_mean 65 = .ok (.i2d, 1) := by decide +kernel
theorem dX3_mean_66 : decode cX3_mean 66 = .ok (.iload_n 2, 1) := by decide +kernel
theorem dX3_mean_67 : decode cX3_mean 67 = .ok (.i2d, 1) := by decide +kernel
theorem dX3_mean_68 : decode cX3_mean 68 = .ok (.ddiv, 1) := by decide +kernel
theorem dX3_mean_69 : decode cX3_mean 69 = .ok (.goto 4, 3) := by decide +kernel
theorem dX3_mean_72 : decode cX3_mean 72 = .ok (.dconst 0, 1) := by decide +kernel
theorem dX3_mean_73 : decode cX3_mean 73 = .ok (.dreturn, 1) := by decide +kernel
theorem dX3_digest_0 : decode cX3_digest 0 = .ok (.ldc2_w 237, 3) := by decide +kernel
theorem dX3_digest_3 : decode cX3_digest 3 = .ok (.lstore_n 1, 1) := by decide +kernel
theorem dX3_digest_4 : decode cX3_digest 4 = .ok (.iconst 0, 1) := by decide +kernel
theorem dX3_digest_5 : decode cX3_digest 5 = .ok (.istore_n 3, 1) := by decide +kernel
theorem dX3_digest_6 : decode cX3_digest 6 = .ok (.iload_n 3, 1) := by decide +kernel
theorem dX3_digest_7 : decode cX3_digest 7 = .ok (.bipush 7, 2) := by decide +kernel
theorem dX3_digest_9 : decode cX3_digest 9 = .ok (.if_icmp .ge 19, 3) := by decide +kernel
theorem dX3_digest_12 : decode cX3_digest 12 = .ok (.lload_n 1, 1) := by decide +kernel
theorem dX3_digest_13 : decode cX3_digest 13 = .ok (.aload_n 0, 1) := by decide +kernel
theorem dX3_digest_14 : decode cX3_digest 14 = .ok (.iload_n 3, 1) := by decide +kernel
theorem dX3_digest_15 : decode cX3_digest 15 = .ok (.invokevirtual 239, 3) := by decide +kernel
theorem dX3_digest_18 : decode cX3_digest 18 = .ok (.invokestatic 243, 3) := by decide +kernel
theorem dX3_digest_21 : decode cX3_digest 21 = .ok (.lstore_n 1, 1) := by decide +kernel
theorem dX3_digest_22 : decode cX3_digest 22 = .ok (.iinc 3 1, 3) := by decide +kernel
theorem dX3_digest_25 : decode cX3_digest 25 = .ok (.goto (-19), 3) := by decide +kernel
theorem dX3_digest_28 : decode cX3_digest 28 = .ok (.iconst 0, 1) := by decide +kernel
theorem dX3_digest_29 : decode cX3_digest 29 = .ok (.istore_n 3, 1) := by decide +kernel
theorem dX3_digest_30 : decode cX3_digest 30 = .ok (.iload_n 3, 1) := by decide +kernel
theorem dX3_digest_31 : decode cX3_digest 31 = .ok (.bipush 10, 2) := by decide +kernel
theorem dX3_digest_33 : decode cX3_digest 33 = .ok (.if_icmp .ge 20, 3) := by decide +kernel
theorem dX3_digest_36 : decode cX3_digest 36 = .ok (.lload_n 1, 1) := by decide +kernel
theorem dX3_digest_37 : decode cX3_digest 37 = .ok (.aload_n 0, 1) := by decide +kernel
theorem dX3_digest_38 : decode cX3_digest 38 = .ok (.getfield 19, 3) := by decide +kernel
theorem dX3_digest_41 : decode cX3_digest 41 = .ok (.iload_n 3, 1) := by decide +kernel
theorem dX3_digest_42 : decode cX3_digest 42 = .ok (.iaload, 1) := by decide +kernel
theorem dX3_digest_43 : decode cX3_digest 43 = .ok (.invokestatic 243, 3) := by decide +kernel
theorem dX3_digest_46 : decode cX3_digest 46 = .ok (.lstore_n 1, 1) := by decide +kernel
theorem dX3_digest_47 : decode cX3_digest 47 = .ok (.iinc 3 1, 3) := by decide +kernel
theorem dX3_digest_50 : decode cX3_digest 50 = .ok (.goto (-20), 3) := by decide +kernel
theorem dX3_digest_53 : decode cX3_digest 53 = .ok (.iconst 0, 1) := by decide +kernel
theorem dX3_digest_54 : decode cX3_digest 54 = .ok (.istore_n 3, 1) := by decide +kernel
theorem dX3_digest_55 : decode cX3_digest 55 = .ok (.iload_n 3, 1) := by decide +kernel
theorem dX3_digest_56 : decode cX3_digest 56 = .ok (.aload_n 0, 1) := by decide +kernel
theorem dX3_digest_57 : decode cX3_digest 57 = .ok (.getfield 10, 3) := by decide +kernel
theorem dX3_digest_60 : decode cX3_digest 60 = .ok (.invokevirtual 42, 3) := by decide +kernel
theorem dX3_digest_63 : decode cX3_digest 63 = .ok (.if_icmp .ge 16, 3) := by decide +kernel
theorem dX3_digest_66 : decode cX3_digest 66 = .ok (.aload_n 0, 1) := by decide +kernel
theorem dX3_digest_67 : decode cX3_digest 67 = .ok (.lload_n 1, 1) := by decide +kernel
theorem dX3_digest_68 : decode cX3_digest 68 = .ok (.iload_n 3, 1) := by decide +kernel
theorem dX3_digest_69 : decode cX3_digest 69 = .ok (.invokevirtual 247, 3) := by decide +kernel
theorem dX3_digest_72 : decode cX3_digest 72 = .ok (.lstore_n 1, 1) := by decide +kernel
theorem dX3_digest_73 : decode cX3_digest 73 = .ok (.iinc 3 1, 3) := by decide +kernel
theorem dX3_digest_76 : decode cX3_digest 76 = .ok (.goto (-21), 3) := by decide +kernel
theorem dX3_digest_79 : decode cX3_digest 79 = .ok (.iconst 0, 1) := by decide +kernel
theorem dX3_digest_80 : decode cX3_digest 80 = .ok (.istore_n 3, 1) := by decide +kernel
theorem dX3_digest_81 : decode cX3_digest 81 = .ok (.iload_n 3, 1) := by decide +kernel
theorem dX3_digest_82 : decode cX3_digest 82 = .ok (.aload_n 0, 1) := by decide +kernel
theorem dX3_digest_83 : decode cX3_digest 83 = .ok (.getfield 16, 3) := by decide +kernel
theorem dX3_digest_86 : decode cX3_digest 86 = .ok (.invokevirtual 42, 3) := by decide +kernel
theorem dX3_digest_89 : decode cX3_digest 89 = .ok (.if_icmp .ge 16, 3) := by decide +kernel
theorem dX3_digest_92 : decode cX3_digest 92 = .ok (.aload_n 0, 1) := by decide +kernel
theorem dX3_digest_93 : decode cX3_digest 93 = .ok (.lload_n 1, 1) := by decide +kernel
theorem dX3_digest_94 : decode cX3_digest 94 = .ok (.iload_n 3, 1) := by decide +kernel
theorem dX3_digest_95 : decode cX3_digest 95 = .ok (.invokevirtual 250, 3) := by decide +kernel
theorem dX3_digest_98 : decode cX3_digest 98 = .ok (.lstore_n 1, 1) := by decide +kernel
theorem dX3_digest_99 : decode cX3_digest 99 = .ok (.iinc 3 1, 3) := by decide +kernel
theorem dX3_digest_102 : decode cX3_digest 102 = .ok (.goto (-21), 3) := by decide +kernel
theorem dX3_digest_105 : decode cX3_digest 105 = .ok (.lload_n 1, 1) := by decide +kernel
theorem dX3_digest_106 : decode cX3_digest 106 = .ok (.lreturn, 1) := by decide +kernel
theorem dX3_mixed_0 : decode cX3_mixed 0 = .ok (.lload_n 0, 1) := by decide +kernel
theorem dX3_mixed_1 : decode cX3_mixed 1 = .ok (.ldc2_w 253, 3) := by decide +kernel
theorem dX3_mixed_4 : decode cX3_mixed 4 = .ok (.lmul, 1) := by decide +kernel
theorem dX3_mixed_5 : decode cX3_mixed 5 = .ok (.iload_n 2, 1) := by decide +kernel
theorem dX3_mixed_6 : decode cX3_mixed 6 = .ok (.i2l, 1) := by decide +kernel
theorem dX3_mixed_7 : decode cX3_mixed 7 = .ok (.ladd, 1) := by decide +kernel
theorem dX3_mixed_8 : decode cX3_mixed 8 = .ok (.lreturn, 1) := by decide +kernel
theorem dX3_mixedWithFount_0 : decode cX3_mixedWithFount 0 = .ok (.lload_n 1, 1) := by decide +kernel
theorem dX3_mixedWithFount_1 : decode cX3_mixedWithFount 1 = .ok (.aload_n 0, 1) := by decide +kernel
theorem dX3_mixedWithFount_2 : decode cX3_mixedWithFount 2 = .ok (.getfield 10, 3) := by decide +kernel
theorem dX3_mixedWithFount_5 : decode cX3_mixedWithFount 5 = .ok (.iload_n 3, 1) := by decide +kernel
theorem dX3_mixedWithFount_6 : decode cX3_mixedWithFount 6 = .ok (.invokevirtual 74, 3) := by decide +kernel
theorem dX3_mixedWithFount_9 : decode cX3_mixedWithFount 9 = .ok (.checkcast 51, 3) := by decide +kernel
theorem dX3_mixedWithFount_12 : decode cX3_mixedWithFount 12 = .ok (.getfield 255, 3) := by decide +kernel
theorem dX3_mixedWithFount_15 : decode cX3_mixedWithFount 15 = .ok (.invokestatic 243, 3) := by decide +kernel
theorem dX3_mixedWithFount_18 : decode cX3_mixedWithFount 18 = .ok (.lstore 4, 2) := by decide +kernel
theorem dX3_mixedWithFount_20 : decode cX3_mixedWithFount 20 = .ok (.iconst 0, 1) := by decide +kernel
theorem dX3_mixedWithFount_21 : decode cX3_mixedWithFount 21 = .ok (.istore 6, 2) := by decide +kernel
theorem dX3_mixedWithFount_23 : decode cX3_mixedWithFount 23 = .ok (.iload 6, 2) := by decide +kernel
theorem dX3_mixedWithFount_25 : decode cX3_mixedWithFount 25 = .ok (.bipush 10, 2) := by decide +kernel
theorem dX3_mixedWithFount_27 : decode cX3_mixedWithFount 27 = .ok (.if_icmp .ge 40, 3) := by decide +kernel
theorem dX3_mixedWithFount_30 : decode cX3_mixedWithFount 30 = .ok (.iconst 0, 1) := by decide +kernel
theorem dX3_mixedWithFount_31 : decode cX3_mixedWithFount 31 = .ok (.istore 7, 2) := by decide +kernel
theorem dX3_mixedWithFount_33 : decode cX3_mixedWithFount 33 = .ok (.iload 7, 2) := by decide +kernel
theorem dX3_mixedWithFount_35 : decode cX3_mixedWithFount 35 = .ok (.iconst 3, 1) := by decide +kernel
theorem dX3_mixedWithFount_36 : decode cX3_mixedWithFount 36 = .ok (.if_icmp .ge 25, 3) := by decide +kernel
theorem dX3_mixedWithFount_39 : decode cX3_mixedWithFount 39 = .ok (.lload 4, 2) := by decide +kernel
theorem dX3_mixedWithFount_41 : decode cX3_mixedWithFount 41 = .ok (.aload_n 0, 1) := by decide +kernel
theorem dX3_mixedWithFount_42 : decode cX3_mixedWithFount 42 = .ok (.iload_n 3, 1) := by decide +kernel
theorem dX3_mixedWithFount_43 : decode cX3_mixedWithFount 43 = .ok (.iload 6, 2) := by decide +kernel
theorem dX3_mixedWithFount_45 : decode cX3_mixedWithFount 45 = .ok (.iload 7, 2) := by decide +kernel
theorem dX3_mixedWithFount_47 : decode cX3_mixedWithFount 47 = .ok (.invokevirtual 258, 3) := by decide +kernel
theorem dX3_mixedWithFount_50 : decode cX3_mixedWithFount 50 = .ok (.invokestatic 243, 3) := by decide +kernel
theorem dX3_mixedWithFount_53 : decode cX3_mixedWithFount 53 = .ok (.lstore 4, 2) := by decide +kernel
theorem dX3_mixedWithFount_55 : decode cX3_mixedWithFount 55 = .ok (.iinc 7 1, 3) := by decide +kernel
theorem dX3_mixedWithFount_58 : decode cX3_mixedWithFount 58 = .ok (.goto (-25), 3) := by decide +kernel
theorem dX3_mixedWithFount_61 : decode cX3_mixedWithFount 61 = .ok (.iinc 6 1, 3) := by decide +kernel
theorem dX3_mixedWithFount_64 : decode cX3_mixedWithFount 64 = .ok (.goto (-41), 3) := by decide +kernel
theorem dX3_mixedWithFount_67 : decode cX3_mixedWithFount 67 = .ok (.lload 4, 2) := by decide +kernel
theorem dX3_mixedWithFount_69 : decode cX3_mixedWithFount 69 = .ok (.lreturn, 1) := by decide +kernel
theorem dX3_mixedWithPoster_0 : decode cX3_mixedWithPoster 0 = .ok (.lload_n 1, 1) := by decide +kernel
theorem dX3_mixedWithPoster_1 : decode cX3_mixedWithPoster 1 = .ok (.lstore 4, 2) := by decide +kernel
theorem dX3_mixedWithPoster_3 : decode cX3_mixedWithPoster 3 = .ok (.iconst 0, 1) := by decide +kernel
theorem dX3_mixedWithPoster_4 : decode cX3_mixedWithPoster 4 = .ok (.istore 6, 2) := by decide +kernel
theorem dX3_mixedWithPoster_6 : decode cX3_mixedWithPoster 6 = .ok (.iload 6, 2) := by decide +kernel
theorem dX3_mixedWithPoster_8 : decode cX3_mixedWithPoster 8 = .ok (.bipush 8, 2) := by decide +kernel
theorem dX3_mixedWithPoster_10 : decode cX3_mixedWithPoster 10 = .ok (.if_icmp .ge 23, 3) := by decide +kernel
theorem dX3_mixedWithPoster_13 : decode cX3_mixedWithPoster 13 = .ok (.lload 4, 2) := by decide +kernel
theorem dX3_mixedWithPoster_15 : decode cX3_mixedWithPoster 15 = .ok (.aload_n 0, 1) := by decide +kernel
theorem dX3_mixedWithPoster_16 : decode cX3_mixedWithPoster 16 = .ok (.iload_n 3, 1) := by decide +kernel
theorem dX3_mixedWithPoster_17 : decode cX3_mixedWithPoster 17 = .ok (.iload 6, 2) := by decide +kernel
theorem dX3_mixedWithPoster_19 : decode cX3_mixedWithPoster 19 = .ok (.invokevirtual 262, 3) := by decide +kernel
theorem dX3_mixedWithPoster_22 : decode cX3_mixedWithPoster 22 = .ok (.invokestatic 243, 3) := by decide +kernel
theorem dX3_mixedWithPoster_25 : decode cX3_mixedWithPoster 25 = .ok (.lstore 4, 2) := by decide +kernel
theorem dX3_mixedWithPoster_27 : decode cX3_mixedWithPoster 27 = .ok (.iinc 6 1, 3) := by decide +kernel
theorem dX3_mixedWithPoster_30 : decode cX3_mixedWithPoster 30 = .ok (.goto (-24), 3) := by decide +kernel
theorem dX3_mixedWithPoster_33 : decode cX3_mixedWithPoster 33 = .ok (.aload_n 0, 1) := by decide +kernel
theorem dX3_mixedWithPoster_34 : decode cX3_mixedWithPoster 34 = .ok (.getfield 16, 3) := by decide +kernel
theorem dX3_mixedWithPoster_37 : decode cX3_mixedWithPoster 37 = .ok (.iload_n 3, 1) := by decide +kernel
theorem dX3_mixedWithPoster_38 : decode cX3_mixedWithPoster 38 = .ok (.invokevirtual 74, 3) := by decide +kernel
theorem dX3_mixedWithPoster_41 : decode cX3_mixedWithPoster 41 = .ok (.checkcast 109, 3) := by decide +kernel
theorem dX3_mixedWithPoster_44 : decode cX3_mixedWithPoster 44 = .ok (.getfield 124, 3) := by decide +kernel
theorem dX3_mixedWithPoster_47 : decode cX3_mixedWithPoster 47 = .ok (.invokevirtual 42, 3) := by decide +kernel
theorem dX3_mixedWithPoster_50 : decode cX3_mixedWithPoster 50 = .ok (.istore 6, 2) := by decide +kernel
theorem dX3_mixedWithPoster_52 : decode cX3_mixedWithPoster 52 = .ok (.iconst 0, 1) := by decide +kernel
theorem dX3_mixedWithPoster_53 : decode cX3_mixedWithPoster 53 = .ok (.istore 7, 2) := by decide +kernel
theorem dX3_mixedWithPoster_55 : decode cX3_mixedWithPoster 55 = .ok (.iload 7, 2) := by decide +kernel
theorem dX3_mixedWithPoster_57 : decode cX3_mixedWithPoster 57 = .ok (.iload 6, 2) := by decide +kernel
theorem dX3_mixedWithPoster_59 : decode cX3_mixedWithPoster 59 = .ok (.if_icmp .ge 40, 3) := by decide +kernel
theorem dX3_mixedWithPoster_62 : decode cX3_mixedWithPoster 62 = .ok (.iconst 0, 1) := by decide +kernel
theorem dX3_mixedWithPoster_63 : decode cX3_mixedWithPoster 63 = .ok (.istore 8, 2) := by decide +kernel
theorem dX3_mixedWithPoster_65 : decode cX3_mixedWithPoster 65 = .ok (.iload 8, 2) := by decide +kernel
theorem dX3_mixedWithPoster_67 : decode cX3_mixedWithPoster 67 = .ok (.iconst 4, 1) := by decide +kernel
theorem dX3_mixedWithPoster_68 : decode cX3_mixedWithPoster 68 = .ok (.if_icmp .ge 25, 3) := by decide +kernel
theorem dX3_mixedWithPoster_71 : decode cX3_mixedWithPoster 71 = .ok (.lload 4, 2) := by decide +kernel
theorem dX3_mixedWithPoster_73 : decode cX3_mixedWithPoster 73 = .ok (.aload_n 0, 1) := by decide +kernel
theorem dX3_mixedWithPoster_74 : decode cX3_mixedWithPoster 74 = .ok (.iload_n 3, 1) := by decide +kernel
theorem dX3_mixedWithPoster_75 : decode cX3_mixedWithPoster 75 = .ok (.iload 7, 2) := by decide +kernel
theorem dX3_mixedWithPoster_77 : decode cX3_mixedWithPoster 77 = .ok (.iload 8, 2) := by decide +kernel
theorem dX3_mixedWithPoster_79 : decode cX3_mixedWithPoster 79 = .ok (.invokevirtual 265, 3) := by decide +kernel
theorem dX3_mixedWithPoster_82 : decode cX3_mixedWithPoster 82 = .ok (.invokestatic 243, 3) := by decide +kernel
theorem dX3_mixedWithPoster_85 : decode cX3_mixedWithPoster 85 = .ok (.lstore 4, 2) := by decide +kernel
theorem dX3_mixedWithPoster_87 : decode cX3_mixedWithPoster 87 = .ok (.iinc 8 1, 3) := by decide +kernel
theorem dX3_mixedWithPoster_90 : decode cX3_mixedWithPoster 90 = .ok (.goto (-25), 3) := by decide +kernel
theorem dX3_mixedWithPoster_93 : decode cX3_mixedWithPoster 93 = .ok (.iinc 7 1, 3) := by decide +kernel
theorem dX3_mixedWithPoster_96 : decode cX3_mixedWithPoster 96 = .ok (.goto (-41), 3) := by decide +kernel
theorem dX3_mixedWithPoster_99 : decode cX3_mixedWithPoster 99 = .ok (.lload 4, 2) := by decide +kernel
theorem dX3_mixedWithPoster_101 : decode cX3_mixedWithPoster 101 = .ok (.lreturn, 1) := by decide +kernel
theorem dX3_isFount_0 : decode cX3_isFount 0 = .ok (.iload_n 1, 1) := by decide +kernel
theorem dX3_isFount_1 : decode cX3_isFount 1 = .ok (.ifCond .lt 18, 3) := by decide +kernel
theorem dX3_isFount_4 : decode cX3_isFount 4 = .ok (.iload_n 1, 1) := by decide +kernel
theorem dX3_isFount_5 : decode cX3_isFount 5 = .ok (.aload_n 0, 1) := by decide +kernel
theorem dX3_isFount_6 : decode cX3_isFount 6 = .ok (.getfield 10, 3) := by decide +kernel
theorem dX3_isFount_9 : decode cX3_isFount 9 = .ok (.invokevirtual 42, 3) := by decide +kernel
theorem dX3_isFount_12 : decode cX3_isFount 12 = .ok (.if_icmp .ge 7, 3) := by decide +kernel
theorem dX3_isFount_15 : decode cX3_isFount 15 = .ok (.iconst 1, 1) := by decide +kernel
theorem dX3_isFount_16 : decode cX3_isFount 16 = .ok (.goto 4, 3) := by decide +kernel
theorem dX3_isFount_19 : decode cX3_isFount 19 = .ok (.iconst 0, 1) := by decide +kernel
theorem dX3_isFount_20 : decode cX3_isFount 20 = .ok (.ireturn, 1) := by decide +kernel
theorem dX3_isPoster_0 : decode cX3_isPoster 0 = .ok (.iload_n 1, 1) := by decide +kernel
theorem dX3_isPoster_1 : decode cX3_isPoster 1 = .ok (.ifCond .lt 18, 3) := by decide +kernel
theorem dX3_isPoster_4 : decode cX3_isPoster 4 = .ok (.iload_n 1, 1) := by decide +kernel
theorem dX3_isPoster_5 : decode cX3_isPoster 5 = .ok (.aload_n 0, 1) := by decide +kernel
theorem dX3_isPoster_6 : decode cX3_isPoster 6 = .ok (.getfield 16, 3) := by decide +kernel
theorem dX3_isPoster_9 : decode cX3_isPoster 9 = .ok (.invokevirtual 42, 3) := by decide +kernel
theorem dX3_isPoster_12 : decode cX3_isPoster 12 = .ok (.if_icmp .ge 7, 3) := by decide +kernel
theorem dX3_isPoster_15 : decode cX3_isPoster 15 = .ok (.iconst 1, 1) := by decide +kernel
theorem dX3_isPoster_16 : decode cX3_isPoster 16 = .ok (.goto 4, 3) := by decide +kernel
theorem dX3_isPoster_19 : decode cX3_isPoster 19 = .ok (.iconst 0, 1) := by decide +kernel
theorem dX3_isPoster_20 : decode cX3_isPoster 20 = .ok (.ireturn, 1) := by decide +kernel
theorem dX3_isLetter_0 : decode cX3_isLetter 0 = .ok (.iload_n 0, 1) := by decide +kernel
theorem dX3_isLetter_1 : decode cX3_isLetter 1 = .ok (.ifCond .lt 13, 3) := by decide +kernel
theorem dX3_isLetter_4 : decode cX3_isLetter 4 = .ok (.iload_n 0, 1) := by decide +kernel
theorem dX3_isLetter_5 : decode cX3_isLetter 5 = .ok (.bipush 10, 2) := by decide +kernel
theorem dX3_isLetter_7 : decode cX3_isLetter 7 = .ok (.if_icmp .ge 7, 3) := by decide +kernel
theorem dX3_isLetter_10 : decode cX3_isLetter 10 = .ok (.iconst 1, 1) := by decide +kernel
theorem dX3_isLetter_11 : decode cX3_isLetter 11 = .ok (.goto 4, 3) := by decide +kernel
theorem dX3_isLetter_14 : decode cX3_isLetter 14 = .ok (.iconst 0, 1) := by decide +kernel
theorem dX3_isLetter_15 : decode cX3_isLetter 15 = .ok (.ireturn, 1) := by decide +kernel
theorem dX3_isTown_0 : decode cX3_isTown 0 = .ok (.iload_n 0, 1) := by decide +kernel
theorem dX3_isTown_1 : decode cX3_isTown 1 = .ok (.ifCond .lt 12, 3) := by decide +kernel
theorem dX3_isTown_4 : decode cX3_isTown 4 = .ok (.iload_n 0, 1) := by decide +kernel
theorem dX3_isTown_5 : decode cX3_isTown 5 = .ok (.iconst 4, 1) := by decide +kernel
theorem dX3_isTown_6 : decode cX3_isTown 6 = .ok (.if_icmp .ge 7, 3) := by decide +kernel
theorem dX3_isTown_9 : decode cX3_isTown 9 = .ok (.iconst 1, 1) := by decide +kernel
theorem dX3_isTown_10 : decode cX3_isTown 10 = .ok (.goto 4, 3) := by decide +kernel
theorem dX3_isTown_13 : decode cX3_isTown 13 = .ok (.iconst 0, 1) := by decide +kernel
theorem dX3_isTown_14 : decode cX3_isTown 14 = .ok (.ireturn, 1) := by decide +kernel
theorem dX3_postersSet_0 : decode cX3_postersSet 0 = .ok (.iconst 0, 1) := by decide +kernel
theorem dX3_postersSet_1 : decode cX3_postersSet 1 = .ok (.istore_n 1, 1) := by decide +kernel
theorem dX3_postersSet_2 : decode cX3_postersSet 2 = .ok (.iconst 0, 1) := by decide +kernel
theorem dX3_postersSet_3 : decode cX3_postersSet 3 = .ok (.istore_n 2, 1) := by decide +kernel
theorem dX3_postersSet_4 : decode cX3_postersSet 4 = .ok (.iload_n 2, 1) := by decide +kernel
theorem dX3_postersSet_5 : decode cX3_postersSet 5 = .ok (.aload_n 0, 1) := by decide +kernel
theorem dX3_postersSet_6 : decode cX3_postersSet 6 = .ok (.getfield 16, 3) := by decide +kernel
theorem dX3_postersSet_9 : decode cX3_postersSet 9 = .ok (.invokevirtual 42, 3) := by decide +kernel
theorem dX3_postersSet_12 : decode cX3_postersSet 12 = .ok (.if_icmp .ge 29, 3) := by decide +kernel
theorem dX3_postersSet_15 : decode cX3_postersSet 15 = .ok (.aload_n 0, 1) := by decide +kernel
theorem dX3_postersSet_16 : decode cX3_postersSet 16 = .ok (.getfield 16, 3) := by decide +kernel
theorem dX3_postersSet_19 : decode cX3_postersSet 19 = .ok (.iload_n 2, 1) := by decide +kernel
theorem dX3_postersSet_20 : decode cX3_postersSet 20 = .ok (.invokevirtual 74, 3) := by decide +kernel
theorem dX3_postersSet_23 : decode cX3_postersSet 23 = .ok (.checkcast 109, 3) := by decide +kernel
theorem dX3_postersSet_26 : decode cX3_postersSet 26 = .ok (.getfield 120, 3) := by decide +kernel
theorem dX3_postersSet_29 : decode cX3_postersSet 29 = .ok (.ifCond .eq 6, 3) := by decide +kernel
theorem dX3_postersSet_32 : decode cX3_postersSet 32 = .ok (.iinc 1 1, 3) := by decide +kernel
theorem dX3_postersSet_35 : decode cX3_postersSet 35 = .ok (.iinc 2 1, 3) := by decide +kernel
theorem dX3_postersSet_38 : decode cX3_postersSet 38 = .ok (.goto (-34), 3) := by decide +kernel
theorem dX3_postersSet_41 : decode cX3_postersSet 41 = .ok (.iload_n 1, 1) := by decide +kernel
theorem dX3_postersSet_42 : decode cX3_postersSet 42 = .ok (.ireturn, 1) := by decide +kernel
theorem dX3_blocksInAll_0 : decode cX3_blocksInAll 0 = .ok (.iconst 0, 1) := by decide +kernel
theorem dX3_blocksInAll_1 : decode cX3_blocksInAll 1 = .ok (.istore_n 1, 1) := by decide +kernel
theorem dX3_blocksInAll_2 : decode cX3_blocksInAll 2 = .ok (.iconst 0, 1) := by decide +kernel
theorem dX3_blocksInAll_3 : decode cX3_blocksInAll 3 = .ok (.istore_n 2, 1) := by decide +kernel
theorem dX3_blocksInAll_4 : decode cX3_blocksInAll 4 = .ok (.iload_n 2, 1) := by decide +kernel
theorem dX3_blocksInAll_5 : decode cX3_blocksInAll 5 = .ok (.aload_n 0, 1) := by decide +kernel
theorem dX3_blocksInAll_6 : decode cX3_blocksInAll 6 = .ok (.getfield 10, 3) := by decide +kernel
theorem dX3_blocksInAll_9 : decode cX3_blocksInAll 9 = .ok (.invokevirtual 42, 3) := by decide +kernel
theorem dX3_blocksInAll_12 : decode cX3_blocksInAll 12 = .ok (.if_icmp .ge 42, 3) := by decide +kernel
theorem dX3_blocksInAll_15 : decode cX3_blocksInAll 15 = .ok (.iconst 0, 1) := by decide +kernel
theorem dX3_blocksInAll_16 : decode cX3_blocksInAll 16 = .ok (.istore_n 3, 1) := by decide +kernel
theorem dX3_blocksInAll_17 : decode cX3_blocksInAll 17 = .ok (.iload_n 3, 1) := by decide +kernel
theorem dX3_blocksInAll_18 : decode cX3_blocksInAll 18 = .ok (.bipush 10, 2) := by decide +kernel
theorem dX3_blocksInAll_20 : decode cX3_blocksInAll 20 = .ok (.if_icmp .ge 28, 3) := by decide +kernel
theorem dX3_blocksInAll_23 : decode cX3_blocksInAll 23 = .ok (.iload_n 1, 1) := by decide +kernel
theorem dX3_blocksInAll_24 : decode cX3_blocksInAll 24 = .ok (.aload_n 0, 1) := by decide +kernel
theorem dX3_blocksInAll_25 : decode cX3_blocksInAll 25 = .ok (.getfield 10, 3) := by decide +kernel
theorem dX3_blocksInAll_28 : decode cX3_blocksInAll 28 = .ok (.iload_n 2, 1) := by decide +kernel
theorem dX3_blocksInAll_29 : decode cX3_blocksInAll 29 = .ok (.invokevirtual 74, 3) := by decide +kernel
theorem dX3_blocksInAll_32 : decode cX3_blocksInAll 32 = .ok (.checkcast 51, 3) := by decide +kernel
theorem dX3_blocksInAll_35 : decode cX3_blocksInAll 35 = .ok (.getfield 78, 3) := by decide +kernel
theorem dX3_blocksInAll_38 : decode cX3_blocksInAll 38 = .ok (.iload_n 3, 1) := by decide +kernel
theorem dX3_blocksInAll_39 : decode cX3_blocksInAll 39 = .ok (.iaload, 1) := by decide +kernel
theorem dX3_blocksInAll_40 : decode cX3_blocksInAll 40 = .ok (.iadd, 1) := by decide +kernel
theorem dX3_blocksInAll_41 : decode cX3_blocksInAll 41 = .ok (.istore_n 1, 1) := by decide +kernel
theorem dX3_blocksInAll_42 : decode cX3_blocksInAll 42 = .ok (.iinc 3 1, 3) := by decide +kernel
theorem dX3_blocksInAll_45 : decode cX3_blocksInAll 45 = .ok (.goto (-28), 3) := by decide +kernel
theorem dX3_blocksInAll_48 : decode cX3_blocksInAll 48 = .ok (.iinc 2 1, 3) := by decide +kernel
theorem dX3_blocksInAll_51 : decode cX3_blocksInAll 51 = .ok (.goto (-47), 3) := by decide +kernel
theorem dX3_blocksInAll_54 : decode cX3_blocksInAll 54 = .ok (.iload_n 1, 1) := by decide +kernel
theorem dX3_blocksInAll_55 : decode cX3_blocksInAll 55 = .ok (.ireturn, 1) := by decide +kernel
theorem dX3_freeInAll_0 : decode cX3_freeInAll 0 = .ok (.iconst 0, 1) := by decide +kernel
theorem dX3_freeInAll_1 : decode cX3_freeInAll 1 = .ok (.istore_n 1, 1) := by decide +kernel
theorem dX3_freeInAll_2 : decode cX3_freeInAll 2 = .ok (.iconst 0, 1) := by decide +kernel
theorem dX3_freeInAll_3 : decode cX3_freeInAll 3 = .ok (.istore_n 2, 1) := by decide +kernel
theorem dX3_freeInAll_4 : decode cX3_freeInAll 4 = .ok (.iload_n 2, 1) := by decide +kernel
theorem dX3_freeInAll_5 : decode cX3_freeInAll 5 = .ok (.aload_n 0, 1) := by decide +kernel
theorem dX3_freeInAll_6 : decode cX3_freeInAll 6 = .ok (.getfield 10, 3) := by decide +kernel
theorem dX3_freeInAll_9 : decode cX3_freeInAll 9 = .ok (.invokevirtual 42, 3) := by decide +kernel
theorem dX3_freeInAll_12 : decode cX3_freeInAll 12 = .ok (.if_icmp .ge 42, 3) := by decide +kernel
theorem dX3_freeInAll_15 : decode cX3_freeInAll 15 = .ok (.iconst 0, 1) := by decide +kernel
theorem dX3_freeInAll_16 : decode cX3_freeInAll 16 = .ok (.istore_n 3, 1) := by decide +kernel
theorem dX3_freeInAll_17 : decode cX3_freeInAll 17 = .ok (.iload_n 3, 1) := by decide +kernel
theorem dX3_freeInAll_18 : decode cX3_freeInAll 18 = .ok (.bipush 10, 2) := by decide +kernel
theorem dX3_freeInAll_20 : decode cX3_freeInAll 20 = .ok (.if_icmp .ge 28, 3) := by decide +kernel
theorem dX3_freeInAll_23 : decode cX3_freeInAll 23 = .ok (.iload_n 1, 1) := by decide +kernel
theorem dX3_freeInAll_24 : decode cX3_freeInAll 24 = .ok (.aload_n 0, 1) := by decide +kernel
theorem dX3_freeInAll_25 : decode cX3_freeInAll 25 = .ok (.getfield 10, 3) := by decide +kernel
theorem dX3_freeInAll_28 : decode cX3_freeInAll 28 = .ok (.iload_n 2, 1) := by decide +kernel
theorem dX3_freeInAll_29 : decode cX3_freeInAll 29 = .ok (.invokevirtual 74, 3) := by decide +kernel
theorem dX3_freeInAll_32 : decode cX3_freeInAll 32 = .ok (.checkcast 51, 3) := by decide +kernel
theorem dX3_freeInAll_35 : decode cX3_freeInAll 35 = .ok (.getfield 169, 3) := by decide +kernel
theorem dX3_freeInAll_38 : decode cX3_freeInAll 38 = .ok (.iload_n 3, 1) := by decide +kernel
theorem dX3_freeInAll_39 : decode cX3_freeInAll 39 = .ok (.iaload, 1) := by decide +kernel
theorem dX3_freeInAll_40 : decode cX3_freeInAll 40 = .ok (.iadd, 1) := by decide +kernel
theorem dX3_freeInAll_41 : decode cX3_freeInAll 41 = .ok (.istore_n 1, 1) := by decide +kernel
theorem dX3_freeInAll_42 : decode cX3_freeInAll 42 = .ok (.iinc 3 1, 3) := by decide +kernel
theorem dX3_freeInAll_45 : decode cX3_freeInAll 45 = .ok (.goto (-28), 3) := by decide +kernel
theorem dX3_freeInAll_48 : decode cX3_freeInAll 48 = .ok (.iinc 2 1, 3) := by decide +kernel
theorem dX3_freeInAll_51 : decode cX3_freeInAll 51 = .ok (.goto (-47), 3) := by decide +kernel
theorem dX3_freeInAll_54 : decode cX3_freeInAll 54 = .ok (.iload_n 1, 1) := by decide +kernel
theorem dX3_freeInAll_55 : decode cX3_freeInAll 55 = .ok (.ireturn, 1) := by decide +kernel
theorem dX3_isFewer_0 : decode cX3_isFewer 0 = .ok (.iload_n 0, 1) := by decide +kernel
theorem dX3_isFewer_1 : decode cX3_isFewer 1 = .ok (.iconst (-1), 1) := by decide +kernel
theorem dX3_isFewer_2 : decode cX3_isFewer 2 = .ok (.if_icmp .eq 17, 3) := by decide +kernel
theorem dX3_isFewer_5 : decode cX3_isFewer 5 = .ok (.iload_n 1, 1) := by decide +kernel
theorem dX3_isFewer_6 : decode cX3_isFewer 6 = .ok (.iconst (-1), 1) := by decide +kernel
theorem dX3_isFewer_7 : decode cX3_isFewer 7 = .ok (.if_icmp .eq 8, 3) := by decide +kernel
theorem dX3_isFewer_10 : decode cX3_isFewer 10 = .ok (.iload_n 0, 1) := by decide +kernel
theorem dX3_isFewer_11 : decode cX3_isFewer 11 = .ok (.iload_n 1, 1) := by decide +kernel
theorem dX3_isFewer_12 : decode cX3_isFewer 12 = .ok (.if_icmp .ge 7, 3) := by decide +kernel
theorem dX3_isFewer_15 : decode cX3_isFewer 15 = .ok (.iconst 1, 1) := by decide +kernel
theorem dX3_isFewer_16 : decode cX3_isFewer 16 = .ok (.goto 4, 3) := by decide +kernel
theorem dX3_isFewer_19 : decode cX3_isFewer 19 = .ok (.iconst 0, 1) := by decide +kernel
theorem dX3_isFewer_20 : decode cX3_isFewer 20 = .ok (.ireturn, 1) := by decide +kernel
theorem dX3_copiesUntilWorn_0 : decode cX3_copiesUntilWorn 0 = .ok (.aload_n 0, 1) := by decide +kernel
theorem dX3_copiesUntilWorn_1 : decode cX3_copiesUntilWorn 1 = .ok (.aload_n 1, 1) := by decide +kernel
theorem dX3_copiesUntilWorn_2 : decode cX3_copiesUntilWorn 2 = .ok (.iload_n 2, 1) := by decide +kernel
theorem dX3_copiesUntilWorn_3 : decode cX3_copiesUntilWorn 3 = .ok (.invokevirtual 268, 3) := by decide +kernel
theorem dX3_copiesUntilWorn_6 : decode cX3_copiesUntilWorn 6 = .ok (.istore_n 3, 1) := by decide +kernel
theorem dX3_copiesUntilWorn_7 : decode cX3_copiesUntilWorn 7 = .ok (.iload_n 3, 1) := by decide +kernel
theorem dX3_copiesUntilWorn_8 : decode cX3_copiesUntilWorn 8 = .ok (.ifCond .gt 7, 3) := by decide +kernel
theorem dX3_copiesUntilWorn_11 : decode cX3_copiesUntilWorn 11 = .ok (.sipush 400, 3) := by decide +kernel
theorem dX3_copiesUntilWorn_14 : decode cX3_copiesUntilWorn 14 = .ok (.ireturn, 1) := by decide +kernel
theorem dX3_copiesUntilWorn_15 : decode cX3_copiesUntilWorn 15 = .ok (.sipush 400, 3) := by decide +kernel
theorem dX3_copiesUntilWorn_18 : decode cX3_copiesUntilWorn 18 = .ok (.aload_n 1, 1) := by decide +kernel
theorem dX3_copiesUntilWorn_19 : decode cX3_copiesUntilWorn 19 = .ok (.getfield 172, 3) := by decide +kernel
theorem dX3_copiesUntilWorn_22 : decode cX3_copiesUntilWorn 22 = .ok (.iload_n 2, 1) := by decide +kernel
theorem dX3_copiesUntilWorn_23 : decode cX3_copiesUntilWorn 23 = .ok (.iaload, 1) := by decide +kernel
theorem dX3_copiesUntilWorn_24 : decode cX3_copiesUntilWorn 24 = .ok (.isub, 1) := by decide +kernel
theorem dX3_copiesUntilWorn_25 : decode cX3_copiesUntilWorn 25 = .ok (.istore 4, 2) := by decide +kernel
theorem dX3_copiesUntilWorn_27 : decode cX3_copiesUntilWorn 27 = .ok (.iload 4, 2) := by decide +kernel
theorem dX3_copiesUntilWorn_29 : decode cX3_copiesUntilWorn 29 = .ok (.ifCond .gt 7, 3) := by decide +kernel
theorem dX3_copiesUntilWorn_32 : decode cX3_copiesUntilWorn 32 = .ok (.iconst 0, 1) := by decide +kernel
theorem dX3_copiesUntilWorn_33 : decode cX3_copiesUntilWorn 33 = .ok (.goto 11, 3) := by decide +kernel
theorem dX3_copiesUntilWorn_36 : decode cX3_copiesUntilWorn 36 = .ok (.iload 4, 2) := by decide +kernel
theorem dX3_copiesUntilWorn_38 : decode cX3_copiesUntilWorn 38 = .ok (.iload_n 3, 1) := by decide +kernel
theorem dX3_copiesUntilWorn_39 : decode cX3_copiesUntilWorn 39 = .ok (.iadd, 1) := by decide +kernel
theorem dX3_copiesUntilWorn_40 : decode cX3_copiesUntilWorn 40 = .ok (.iconst 1, 1) := by decide +kernel
theorem dX3_copiesUntilWorn_41 : decode cX3_copiesUntilWorn 41 = .ok (.isub, 1) := by decide +kernel
theorem dX3_copiesUntilWorn_42 : decode cX3_copiesUntilWorn 42 = .ok (.iload_n 3, 1) := by decide +kernel
theorem dX3_copiesUntilWorn_43 : decode cX3_copiesUntilWorn 43 = .ok (.idiv, 1) := by decide +kernel
theorem dX3_copiesUntilWorn_44 : decode cX3_copiesUntilWorn 44 = .ok (.ireturn, 1) := by decide +kernel
theorem dX3_proofIfSet_0 : decode cX3_proofIfSet 0 = .ok (.aload_n 0, 1) := by decide +kernel
theorem dX3_proofIfSet_1 : decode cX3_proofIfSet 1 = .ok (.aload_n 1, 1) := by decide +kernel
theorem dX3_proofIfSet_2 : decode cX3_proofIfSet 2 = .ok (.invokevirtual 134, 3) := by decide +kernel
theorem dX3_proofIfSet_5 : decode cX3_proofIfSet 5 = .ok (.iconst (-1), 1) := by decide +kernel
theorem dX3_proofIfSet_6 : decode cX3_proofIfSet 6 = .ok (.if_icmp .ne 7, 3) := by decide +kernel
theorem dX3_proofIfSet_9 : decode cX3_proofIfSet 9 = .ok (.iconst (-1), 1) := by decide +kernel
theorem dX3_proofIfSet_10 : decode cX3_proofIfSet 10 = .ok (.goto 8, 3) := by decide +kernel
theorem dX3_proofIfSet_13 : decode cX3_proofIfSet 13 = .ok (.aload_n 0, 1) := by decide +kernel
theorem dX3_proofIfSet_14 : decode cX3_proofIfSet 14 = .ok (.aload_n 1, 1) := by decide +kernel
theorem dX3_proofIfSet_15 : decode cX3_proofIfSet 15 = .ok (.invokevirtual 150, 3) := by decide +kernel
theorem dX3_proofIfSet_18 : decode cX3_proofIfSet 18 = .ok (.ireturn, 1) := by decide +kernel
theorem dX3_proofAsLaid_0 : decode cX3_proofAsLaid 0 = .ok (.aload_n 1, 1) := by decide +kernel
theorem dX3_proofAsLaid_1 : decode cX3_proofAsLaid 1 = .ok (.invokevirtual 272, 3) := by decide +kernel
theorem dX3_proofAsLaid_4 : decode cX3_proofAsLaid 4 = .ok (.aload_n 0, 1) := by decide +kernel
theorem dX3_proofAsLaid_5 : decode cX3_proofAsLaid 5 = .ok (.getfield 23, 3) := by decide +kernel
theorem dX3_proofAsLaid_8 : decode cX3_proofAsLaid 8 = .ok (.aload_n 1, 1) := by decide +kernel
theorem dX3_proofAsLaid_9 : decode cX3_proofAsLaid 9 = .ok (.getfield 177, 3) := by decide +kernel
theorem dX3_proofAsLaid_12 : decode cX3_proofAsLaid 12 = .ok (.iaload, 1) := by decide +kernel
theorem dX3_proofAsLaid_13 : decode cX3_proofAsLaid 13 = .ok (.imul, 1) := by decide +kernel
theorem dX3_proofAsLaid_14 : decode cX3_proofAsLaid 14 = .ok (.aload_n 1, 1) := by decide +kernel
theorem dX3_proofAsLaid_15 : decode cX3_proofAsLaid 15 = .ok (.invokevirtual 186, 3) := by decide +kernel
theorem dX3_proofAsLaid_18 : decode cX3_proofAsLaid 18 = .ok (.aload_n 0, 1) := by decide +kernel
theorem dX3_proofAsLaid_19 : decode cX3_proofAsLaid 19 = .ok (.getfield 26, 3) := by decide +kernel
theorem dX3_proofAsLaid_22 : decode cX3_proofAsLaid 22 = .ok (.aload_n 1, 1) := by decide +kernel
theorem dX3_proofAsLaid_23 : decode cX3_proofAsLaid 23 = .ok (.getfield 177, 3) := by decide +kernel
theorem dX3_proofAsLaid_26 : decode cX3_proofAsLaid 26 = .ok (.iaload, 1) := by decide +kernel
theorem dX3_proofAsLaid_27 : decode cX3_proofAsLaid 27 = .ok (.imul, 1) := by decide +kernel
theorem dX3_proofAsLaid_28 : decode cX3_proofAsLaid 28 = .ok (.isub, 1) := by decide +kernel
theorem dX3_proofAsLaid_29 : decode cX3_proofAsLaid 29 = .ok (.istore_n 2, 1) := by decide +kernel
theorem dX3_proofAsLaid_30 : decode cX3_proofAsLaid 30 = .ok (.iload_n 2, 1) := by decide +kernel
theorem dX3_proofAsLaid_31 : decode cX3_proofAsLaid 31 = .ok (.iconst 0, 1) := by decide +kernel
theorem dX3_proofAsLaid_32 : decode cX3_proofAsLaid 32 = .ok (.invokestatic 275, 3) := by decide +kernel
theorem dX3_proofAsLaid_35 : decode cX3_proofAsLaid 35 = .ok (.ireturn, 1) := by decide +kernel
theorem dX3_plan_0 : decode cX3_plan 0 = .ok (.aload_n 1, 1) := by decide +kernel
theorem dX3_plan_1 : decode cX3_plan 1 = .ok (.invokevirtual 222, 3) := by decide +kernel
theorem dX3_plan_4 : decode cX3_plan 4 = .ok (.ifCond .ne 5, 3) := by decide +kernel
theorem dX3_plan_7 : decode cX3_plan 7 = .ok (.iconst (-1), 1) := by decide +kernel
theorem dX3_plan_8 : decode cX3_plan 8 = .ok (.ireturn, 1) := by decide +kernel
theorem dX3_plan_9 : decode cX3_plan 9 = .ok (.aload_n 0, 1) := by decide +kernel
theorem dX3_plan_10 : decode cX3_plan 10 = .ok (.invokevirtual 278, 3) := by decide +kernel
theorem dX3_plan_13 : decode cX3_plan 13 = .ok (.aload_n 0, 1) := by decide +kernel
theorem dX3_plan_14 : decode cX3_plan 14 = .ok (.aload_n 1, 1) := by decide +kernel
theorem dX3_plan_15 : decode cX3_plan 15 = .ok (.invokevirtual 281, 3) := by decide +kernel
theorem dX3_plan_18 : decode cX3_plan 18 = .ok (.ireturn, 1) := by decide +kernel
theorem dX3_planWithOneMore_0 : decode cX3_planWithOneMore 0 = .ok (.aload_n 1, 1) := by decide +kernel
theorem dX3_planWithOneMore_1 : decode cX3_planWithOneMore 1 = .ok (.invokevirtual 222, 3) := by decide +kernel
theorem dX3_planWithOneMore_4 : decode cX3_planWithOneMore 4 = .ok (.ifCond .eq 14, 3) := by decide +kernel
theorem dX3_planWithOneMore_7 : decode cX3_planWithOneMore 7 = .ok (.aload_n 2, 1) := by decide +kernel
theorem dX3_planWithOneMore_8 : decode cX3_planWithOneMore 8 = .ok (.getfield 78, 3) := by decide +kernel
theorem dX3_planWithOneMore_11 : decode cX3_planWithOneMore 11 = .ok (.iload_n 3, 1) := by decide +kernel
theorem dX3_planWithOneMore_12 : decode cX3_planWithOneMore 12 = .ok (.iaload, 1) := by decide +kernel
theorem dX3_planWithOneMore_13 : decode cX3_planWithOneMore 13 = .ok (.bipush 9, 2) := by decide +kernel
theorem dX3_planWithOneMore_15 : decode cX3_planWithOneMore 15 = .ok (.if_icmp .lt 5, 3) := by decide +kernel
theorem dX3_planWithOneMore_18 : decode cX3_planWithOneMore 18 = .ok (.iconst (-1), 1) := by decide +kernel
theorem dX3_planWithOneMore_19 : decode cX3_planWithOneMore 19 = .ok (.ireturn, 1) := by decide +kernel
theorem dX3_planWithOneMore_20 : decode cX3_planWithOneMore 20 = .ok (.aload_n 0, 1) := by decide +kernel
theorem dX3_planWithOneMore_21 : decode cX3_planWithOneMore 21 = .ok (.invokevirtual 278, 3) := by decide +kernel
theorem dX3_planWithOneMore_24 : decode cX3_planWithOneMore 24 = .ok (.aload_n 2, 1) := by decide +kernel
theorem dX3_planWithOneMore_25 : decode cX3_planWithOneMore 25 = .ok (.getfield 284, 3) := by decide +kernel
theorem dX3_planWithOneMore_28 : decode cX3_planWithOneMore 28 = .ok (.iload_n 3, 1) := by decide +kernel
theorem dX3_planWithOneMore_29 : decode cX3_planWithOneMore 29 = .ok (.dup2, 1) := by decide +kernel
theorem dX3_planWithOneMore_30 : decode cX3_planWithOneMore 30 = .ok (.iaload, 1) := by decide +kernel
theorem dX3_planWithOneMore_31 : decode cX3_planWithOneMore 31 = .ok (.iconst 1, 1) := by decide +kernel
theorem dX3_planWithOneMore_32 : decode cX3_planWithOneMore 32 = .ok (.iadd, 1) := by decide +kernel
theorem dX3_planWithOneMore_33 : decode cX3_planWithOneMore 33 = .ok (.iastore, 1) := by decide +kernel
theorem dX3_planWithOneMore_34 : decode cX3_planWithOneMore 34 = .ok (.aload_n 0, 1) := by decide +kernel
theorem dX3_planWithOneMore_35 : decode cX3_planWithOneMore 35 = .ok (.aload_n 1, 1) := by decide +kernel
theorem dX3_planWithOneMore_36 : decode cX3_planWithOneMore 36 = .ok (.invokevirtual 281, 3) := by decide +kernel
theorem dX3_planWithOneMore_39 : decode cX3_planWithOneMore 39 = .ok (.ireturn, 1) := by decide +kernel
theorem dX3_leaveAllFree_0 : decode cX3_leaveAllFree 0 = .ok (.iconst 0, 1) := by decide +kernel
theorem dX3_leaveAllFree_1 : decode cX3_leaveAllFree 1 = .ok (.istore_n 1, 1) := by decide +kernel
theorem dX3_leaveAllFree_2 : decode cX3_leaveAllFree 2 = .ok (.iload_n 1, 1) := by decide +kernel
theorem dX3_leaveAllFree_3 : decode cX3_leaveAllFree 3 = .ok (.aload_n 0, 1) := by decide +kernel
theorem dX3_leaveAllFree_4 : decode cX3_leaveAllFree 4 = .ok (.getfield 10, 3) := by decide +kernel
theorem dX3_leaveAllFree_7 : decode cX3_leaveAllFree 7 = .ok (.invokevirtual 42, 3) := by decide +kernel
theorem dX3_leaveAllFree_10 : decode cX3_leaveAllFree 10 = .ok (.if_icmp .ge 23, 3) := by decide +kernel
theorem dX3_leaveAllFree_13 : decode cX3_leaveAllFree 13 = .ok (.aload_n 0, 1) := by decide +kernel
theorem dX3_leaveAllFree_14 : decode cX3_leaveAllFree 14 = .ok (.getfield 10, 3) := by decide +kernel
theorem dX3_leaveAllFree_17 : decode cX3_leaveAllFree 17 = .ok (.iload_n 1, 1) := by decide +kernel
theorem dX3_leaveAllFree_18 : decode cX3_leaveAllFree 18 = .ok (.invokevirtual 74, 3) := by decide +kernel
theorem dX3_leaveAllFree_21 : decode cX3_leaveAllFree 21 = .ok (.checkcast 51, 3) := by decide +kernel
theorem dX3_leaveAllFree_24 : decode cX3_leaveAllFree 24 = .ok (.invokevirtual 287, 3) := by decide +kernel
theorem dX3_leaveAllFree_27 : decode cX3_leaveAllFree 27 = .ok (.iinc 1 1, 3) := by decide +kernel
theorem dX3_leaveAllFree_30 : decode cX3_leaveAllFree 30 = .ok (.goto (-28), 3) := by decide +kernel
theorem dX3_leaveAllFree_33 : decode cX3_leaveAllFree 33 = .ok (.return_, 1) := by decide +kernel
theorem dX3_layLines_0 : decode cX3_layLines 0 = .ok (.iconst 0, 1) := by decide +kernel
theorem dX3_layLines_1 : decode cX3_layLines 1 = .ok (.istore_n 2, 1) := by decide +kernel
theorem dX3_layLines_2 : decode cX3_layLines 2 = .ok (.iconst 0, 1) := by decide +kernel
theorem dX3_layLines_3 : decode cX3_layLines 3 = .ok (.istore_n 3, 1) := by decide +kernel
theorem dX3_layLines_4 : decode cX3_layLines 4 = .ok (.iload_n 3, 1) := by decide +kernel
theorem dX3_layLines_5 : decode cX3_layLines 5 = .ok (.aload_n 1, 1) := by decide +kernel
theorem dX3_layLines_6 : decode cX3_layLines 6 = .ok (.getfield 124, 3) := by decide +kernel
theorem dX3_layLines_9 : decode cX3_layLines 9 = .ok (.invokevirtual 42, 3) := by decide +kernel
theorem dX3_layLines_12 : decode cX3_layLines 12 = .ok (.if_icmp .ge 67, 3) := by decide +kernel
theorem dX3_layLines_15 : decode cX3_layLines 15 = .ok (.aload_n 1, 1) := by decide +kernel
theorem dX3_layLines_16 : decode cX3_layLines 16 = .ok (.getfield 124, 3) := by decide +kernel
theorem dX3_layLines_19 : decode cX3_layLines 19 = .ok (.iload_n 3, 1) := by decide +kernel
theorem dX3_layLines_20 : decode cX3_layLines 20 = .ok (.invokevirtual 74, 3) := by decide +kernel
theorem dX3_layLines_23 : decode cX3_layLines 23 = .ok (.checkcast 129, 3) := by decide +kernel
theorem dX3_layLines_26 : decode cX3_layLines 26 = .ok (.astore 4, 2) := by decide +kernel
theorem dX3_layLines_28 : decode cX3_layLines 28 = .ok (.aload_n 0, 1) := by decide +kernel
theorem dX3_layLines_29 : decode cX3_layLines 29 = .ok (.aload 4, 2) := by decide +kernel
theorem dX3_layLines_31 : decode cX3_layLines 31 = .ok (.aload_n 1, 1) := by decide +kernel
theorem dX3_layLines_32 : decode cX3_layLines 32 = .ok (.getfield 180, 3) := by decide +kernel
theorem dX3_layLines_35 : decode cX3_layLines 35 = .ok (.invokevirtual 290, 3) := by decide +kernel
theorem dX3_layLines_38 : decode cX3_layLines 38 = .ok (.astore 5, 2) := by decide +kernel
theorem dX3_layLines_40 : decode cX3_layLines 40 = .ok (.aload 5, 2) := by decide +kernel
theorem dX3_layLines_42 : decode cX3_layLines 42 = .ok (.ifnull 14, 3) := by decide +kernel
theorem dX3_layLines_45 : decode cX3_layLines 45 = .ok (.aload_n 0, 1) := by decide +kernel
theorem dX3_layLines_46 : decode cX3_layLines 46 = .ok (.aload 4, 2) := by decide +kernel
theorem dX3_layLines_48 : decode cX3_layLines 48 = .ok (.aload 5, 2) := by decide +kernel
theorem dX3_layLines_50 : decode cX3_layLines 50 = .ok (.invokevirtual 294, 3) := by decide +kernel
theorem dX3_layLines_53 : decode cX3_layLines 53 = .ok (.ifCond .ne 5, 3) := by decide +kernel
theorem dX3_layLines_56 : decode cX3_layLines 56 = .ok (.iconst (-1), 1) := by decide +kernel
theorem dX3_layLines_57 : decode cX3_layLines 57 = .ok (.ireturn, 1) := by decide +kernel
theorem dX3_layLines_58 : decode cX3_layLines 58 = .ok (.aload 5, 2) := by decide +kernel
theorem dX3_layLines_60 : decode cX3_layLines 60 = .ok (.aload 4, 2) := by decide +kernel
theorem dX3_layLines_62 : decode cX3_layLines 62 = .ok (.invokevirtual 298, 3) := by decide +kernel
theorem dX3_layLines_65 : decode cX3_layLines 65 = .ok (.iload_n 2, 1) := by decide +kernel
theorem dX3_layLines_66 : decode cX3_layLines 66 = .ok (.aload 4, 2) := by decide +kernel
theorem dX3_layLines_68 : decode cX3_layLines 68 = .ok (.getfield 198, 3) := by decide +kernel
theorem dX3_layLines_71 : decode cX3_layLines 71 = .ok (.iadd, 1) := by decide +kernel
theorem dX3_layLines_72 : decode cX3_layLines 72 = .ok (.istore_n 2, 1) := by decide +kernel
theorem dX3_layLines_73 : decode cX3_layLines 73 = .ok (.iinc 3 1, 3) := by decide +kernel
theorem dX3_layLines_76 : decode cX3_layLines 76 = .ok (.goto (-72), 3) := by decide +kernel
theorem dX3_layLines_79 : decode cX3_layLines 79 = .ok (.iload_n 2, 1) := by decide +kernel
theorem dX3_layLines_80 : decode cX3_layLines 80 = .ok (.ireturn, 1) := by decide +kernel
theorem dX3_bestFount_0 : decode cX3_bestFount 0 = .ok (.aconst_null, 1) := by decide +kernel
theorem dX3_bestFount_1 : decode cX3_bestFount 1 = .ok (.astore_n 3, 1) := by decide +kernel
theorem dX3_bestFount_2 : decode cX3_bestFount 2 = .ok (.iconst (-1), 1) := by decide +kernel
theorem dX3_bestFount_3 : decode cX3_bestFount 3 = .ok (.istore 4, 2) := by decide +kernel
theorem dX3_bestFount_5 : decode cX3_bestFount 5 = .ok (.iconst 0, 1) := by decide +kernel
theorem dX3_bestFount_6 : decode cX3_bestFount 6 = .ok (.istore 5, 2) := by decide +kernel
theorem dX3_bestFount_8 : decode cX3_bestFount 8 = .ok (.iload 5, 2) := by decide +kernel
theorem dX3_bestFount_10 : decode cX3_bestFount 10 = .ok (.aload_n 0, 1) := by decide +kernel
theorem dX3_bestFount_11 : decode cX3_bestFount 11 = .ok (.getfield 10, 3) := by decide +kernel
theorem dX3_bestFount_14 : decode cX3_bestFount 14 = .ok (.invokevirtual 42, 3) := by decide +kernel
theorem dX3_bestFount_17 : decode cX3_bestFount 17 = .ok (.if_icmp .ge 85, 3) := by decide +kernel
theorem dX3_bestFount_20 : decode cX3_bestFount 20 = .ok (.aload_n 0, 1) := by decide +kernel
theorem dX3_bestFount_21 : decode cX3_bestFount 21 = .ok (.getfield 10, 3) := by decide +kernel
theorem dX3_bestFount_24 : decode cX3_bestFount 24 = .ok (.iload 5, 2) := by decide +kernel
theorem dX3_bestFount_26 : decode cX3_bestFount 26 = .ok (.invokevirtual 74, 3) := by decide +kernel
theorem dX3_bestFount_29 : decode cX3_bestFount 29 = .ok (.checkcast 51, 3) := by decide +kernel
theorem dX3_bestFount_32 : decode cX3_bestFount 32 = .ok (.astore 6, 2) := by decide +kernel
theorem dX3_bestFount_34 : decode cX3_bestFount 34 = .ok (.aload 6, 2) := by decide +kernel
theorem dX3_bestFount_36 : decode cX3_bestFount 36 = .ok (.getfield 255, 3) := by decide +kernel
theorem dX3_bestFount_39 : decode cX3_bestFount 39 = .ok (.iload_n 2, 1) := by decide +kernel
theorem dX3_bestFount_40 : decode cX3_bestFount 40 = .ok (.if_icmp .lt 56, 3) := by decide +kernel
theorem dX3_bestFount_43 : decode cX3_bestFount 43 = .ok (.aload_n 0, 1) := by decide +kernel
theorem dX3_bestFount_44 : decode cX3_bestFount 44 = .ok (.aload_n 1, 1) := by decide +kernel
theorem dX3_bestFount_45 : decode cX3_bestFount 45 = .ok (.aload 6, 2) := by decide +kernel
theorem dX3_bestFount_47 : decode cX3_bestFount 47 = .ok (.invokevirtual 294, 3) := by decide +kernel
theorem dX3_bestFount_50 : decode cX3_bestFount 50 = .ok (.ifCond .eq 46, 3) := by decide +kernel
theorem dX3_bestFount_53 : decode cX3_bestFount 53 = .ok (.aload_n 3, 1) := by decide +kernel
theorem dX3_bestFount_54 : decode cX3_bestFount 54 = .ok (.ifnull 33, 3) := by decide +kernel
theorem dX3_bestFount_57 : decode cX3_bestFount 57 = .ok (.aload_n 1, 1) := by decide +kernel
theorem dX3_bestFount_58 : decode cX3_bestFount 58 = .ok (.getfield 198, 3) := by decide +kernel
theorem dX3_bestFount_61 : decode cX3_bestFount 61 = .ok (.iload 4, 2) := by decide +kernel
theorem dX3_bestFount_63 : decode cX3_bestFount 63 = .ok (.if_icmp .lt 24, 3) := by decide +kernel
theorem dX3_bestFount_66 : decode cX3_bestFount 66 = .ok (.aload_n 1, 1) := by decide +kernel
theorem dX3_bestFount_67 : decode cX3_bestFount 67 = .ok (.getfield 198, 3) := by decide +kernel
theorem dX3_bestFount_70 : decode cX3_bestFount 70 = .ok (.iload 4, 2) := by decide +kernel
theorem dX3_bestFount_72 : decode cX3_bestFount 72 = .ok (.if_icmp .ne 24, 3) := by decide +kernel
theorem dX3_bestFount_75 : decode cX3_bestFount 75 = .ok (.aload 6, 2) := by decide +kernel
theorem dX3_bestFount_77 : decode cX3_bestFount 77 = .ok (.getfield 255, 3) := by decide +kernel
theorem dX3_bestFount_80 : decode cX3_bestFount 80 = .ok (.aload_n 3, 1) := by decide +kernel
theorem dX3_bestFount_81 : decode cX3_bestFount 81 = .ok (.getfield 255, 3) := by decide +kernel
theorem dX3_bestFount_84 : decode cX3_bestFount 84 = .ok (.if_icmp .le 12, 3) := by decide +kernel
theorem dX3_bestFount_87 : decode cX3_bestFount 87 = .ok (.aload 6, 2) := by decide +kernel
theorem dX3_bestFount_89 : decode cX3_bestFount 89 = .ok (.astore_n 3, 1) := by decide +kernel
theorem dX3_bestFount_90 : decode cX3_bestFount 90 = .ok (.aload_n 1, 1) := by decide +kernel
theorem dX3_bestFount_91 : decode cX3_bestFount 91 = .ok (.getfield 198, 3) := by decide +kernel
theorem dX3_bestFount_94 : decode cX3_bestFount 94 = .ok (.istore 4, 2) := by decide +kernel
theorem dX3_bestFount_96 : decode cX3_bestFount 96 = .ok (.iinc 5 1, 3) := by decide +kernel
theorem dX3_bestFount_99 : decode cX3_bestFount 99 = .ok (.goto (-91), 3) := by decide +kernel
theorem dX3_bestFount_102 : decode cX3_bestFount 102 = .ok (.aload_n 3, 1) := by decide +kernel
theorem dX3_bestFount_103 : decode cX3_bestFount 103 = .ok (.areturn, 1) := by decide +kernel
theorem dX3_lay_0 : decode cX3_lay 0 = .ok (.aload_n 1, 1) := by decide +kernel
theorem dX3_lay_1 : decode cX3_lay 1 = .ok (.aload_n 2, 1) := by decide +kernel
theorem dX3_lay_2 : decode cX3_lay 2 = .ok (.invokevirtual 302, 3) := by decide +kernel
theorem dX3_lay_5 : decode cX3_lay 5 = .ok (.iconst 0, 1) := by decide +kernel
theorem dX3_lay_6 : decode cX3_lay 6 = .ok (.istore_n 3, 1) := by decide +kernel
theorem dX3_lay_7 : decode cX3_lay 7 = .ok (.iload_n 3, 1) := by decide +kernel
theorem dX3_lay_8 : decode cX3_lay 8 = .ok (.aload_n 1, 1) := by decide +kernel
theorem dX3_lay_9 : decode cX3_lay 9 = .ok (.getfield 193, 3) := by decide +kernel
theorem dX3_lay_12 : decode cX3_lay 12 = .ok (.if_icmp .ge 53, 3) := by decide +kernel
theorem dX3_lay_15 : decode cX3_lay 15 = .ok (.aload_n 1, 1) := by decide +kernel
theorem dX3_lay_16 : decode cX3_lay 16 = .ok (.getfield 306, 3) := by decide +kernel
theorem dX3_lay_19 : decode cX3_lay 19 = .ok (.iload_n 3, 1) := by decide +kernel
theorem dX3_lay_20 : decode cX3_lay 20 = .ok (.iaload, 1) := by decide +kernel
theorem dX3_lay_21 : decode cX3_lay 21 = .ok (.istore 4, 2) := by decide +kernel
theorem dX3_lay_23 : decode cX3_lay 23 = .ok (.aload_n 0, 1) := by decide +kernel
theorem dX3_lay_24 : decode cX3_lay 24 = .ok (.iload 4, 2) := by decide +kernel
theorem dX3_lay_26 : decode cX3_lay 26 = .ok (.aload_n 1, 1) := by decide +kernel
theorem dX3_lay_27 : decode cX3_lay 27 = .ok (.aload_n 2, 1) := by decide +kernel
theorem dX3_lay_28 : decode cX3_lay 28 = .ok (.invokevirtual 308, 3) := by decide +kernel
theorem dX3_lay_31 : decode cX3_lay 31 = .ok (.istore 5, 2) := by decide +kernel
theorem dX3_lay_33 : decode cX3_lay 33 = .ok (.iload 5, 2) := by decide +kernel
theorem dX3_lay_35 : decode cX3_lay 35 = .ok (.iconst (-1), 1) := by decide +kernel
theorem dX3_lay_36 : decode cX3_lay 36 = .ok (.if_icmp .ne 5, 3) := by decide +kernel
theorem dX3_lay_39 : decode cX3_lay 39 = .ok (.iconst 0, 1) := by decide +kernel
theorem dX3_lay_40 : decode cX3_lay 40 = .ok (.ireturn, 1) := by decide +kernel
theorem dX3_lay_41 : decode cX3_lay 41 = .ok (.aload_n 1, 1) := by decide +kernel
theorem dX3_lay_42 : decode cX3_lay 42 = .ok (.iload 5, 2) := by decide +kernel
theorem dX3_lay_44 : decode cX3_lay 44 = .ok (.iload 5, 2) := by decide +kernel
theorem dX3_lay_46 : decode cX3_lay 46 = .ok (.iload 4, 2) := by decide +kernel
theorem dX3_lay_48 : decode cX3_lay 48 = .ok (.if_icmp .eq 7, 3) := by decide +kernel
theorem dX3_lay_51 : decode cX3_lay 51 = .ok (.iconst 1, 1) := by decide +kernel
theorem dX3_lay_52 : decode cX3_lay 52 = .ok (.goto 4, 3) := by decide +kernel
theorem dX3_lay_55 : decode cX3_lay 55 = .ok (.iconst 0, 1) := by decide +kernel
theorem dX3_lay_56 : decode cX3_lay 56 = .ok (.invokevirtual 312, 3) := by decide +kernel
theorem dX3_lay_59 : decode cX3_lay 59 = .ok (.iinc 3 1, 3) := by decide +kernel
theorem dX3_lay_62 : decode cX3_lay 62 = .ok (.goto (-55), 3) := by decide +kernel
theorem dX3_lay_65 : decode cX3_lay 65 = .ok (.iconst 1, 1) := by decide +kernel
theorem dX3_lay_66 : decode cX3_lay 66 = .ok (.ireturn, 1) := by decide +kernel
theorem dX3_blockFor_0 : decode cX3_blockFor 0 = .ok (.aload_n 2, 1) := by decide +kernel
theorem dX3_blockFor_1 : decode cX3_blockFor 1 = .ok (.getfield 316, 3) := by decide +kernel
theorem dX3_blockFor_4 : decode cX3_blockFor 4 = .ok (.iload_n 1, 1) := by decide +kernel
theorem dX3_blockFor_5 : decode cX3_blockFor 5 = .ok (.iaload, 1) := by decide +kernel
theorem dX3_blockFor_6 : decode cX3_blockFor 6 = .ok (.aload_n 3, 1) := by decide +kernel
theorem dX3_blockFor_7 : decode cX3_blockFor 7 = .ok (.getfield 284, 3) := by decide +kernel
theorem dX3_blockFor_10 : decode cX3_blockFor 10 = .ok (.iload_n 1, 1) := by decide +kernel
theorem dX3_blockFor_11 : decode cX3_blockFor 11 = .ok (.iaload, 1) := by decide +kernel
theorem dX3_blockFor_12 : decode cX3_blockFor 12 = .ok (.if_icmp .ge 5, 3) := by decide +kernel
theorem dX3_blockFor_15 : decode cX3_blockFor 15 = .ok (.iload_n 1, 1) := by decide +kernel
theorem dX3_blockFor_16 : decode cX3_blockFor 16 = .ok (.ireturn, 1) := by decide +kernel
theorem dX3_blockFor_17 : decode cX3_blockFor 17 = .ok (.aload_n 0, 1) := by decide +kernel
theorem dX3_blockFor_18 : decode cX3_blockFor 18 = .ok (.getfield 19, 3) := by decide +kernel
theorem dX3_blockFor_21 : decode cX3_blockFor 21 = .ok (.iload_n 1, 1) := by decide +kernel
theorem dX3_blockFor_22 : decode cX3_blockFor 22 = .ok (.iaload, 1) := by decide +kernel
theorem dX3_blockFor_23 : decode cX3_blockFor 23 = .ok (.istore 4, 2) := by decide +kernel
theorem dX3_blockFor_25 : decode cX3_blockFor 25 = .ok (.iload 4, 2) := by decide +kernel
theorem dX3_blockFor_27 : decode cX3_blockFor 27 = .ok (.ifCond .lt 23, 3) := by decide +kernel
theorem dX3_blockFor_30 : decode cX3_blockFor 30 = .ok (.aload_n 2, 1) := by decide +kernel
theorem dX3_blockFor_31 : decode cX3_blockFor 31 = .ok (.getfield 316, 3) := by decide +kernel
theorem dX3_blockFor_34 : decode cX3_blockFor 34 = .ok (.iload 4, 2) := by decide +kernel
theorem dX3_blockFor_36 : decode cX3_blockFor 36 = .ok (.iaload, 1) := by decide +kernel
theorem dX3_blockFor_37 : decode cX3_blockFor 37 = .ok (.aload_n 3, 1) := by decide +kernel
theorem dX3_blockFor_38 : decode cX3_blockFor 38 = .ok (.getfield 284, 3) := by decide +kernel
theorem dX3_blockFor_41 : decode cX3_blockFor 41 = .ok (.iload 4, 2) := by decide +kernel
theorem dX3_blockFor_43 : decode cX3_blockFor 43 = .ok (.iaload, 1) := by decide +kernel
theorem dX3_blockFor_44 : decode cX3_blockFor 44 = .ok (.if_icmp .ge 6, 3) := by decide +kernel
theorem dX3_blockFor_47 : decode cX3_blockFor 47 = .ok (.iload 4, 2) := by decide +kernel
theorem dX3_blockFor_49 : decode cX3_blockFor 49 = .ok (.ireturn, 1) := by decide +kernel
theorem dX3_blockFor_50 : decode cX3_blockFor 50 = .ok (.iconst (-1), 1) := by decide +kernel
theorem dX3_blockFor_51 : decode cX3_blockFor 51 = .ok (.ireturn, 1) := by decide +kernel
theorem dX4_init_0 : decode cX4_init 0 = .ok (.aload_n 0, 1) := by decide +kernel
theorem dX4_init_1 : decode cX4_init 1 = .ok (.invokespecial 1, 3) := by decide +kernel
theorem dX4_init_4 : decode cX4_init 4 = .ok (.aload_n 0, 1) := by decide +kernel
theorem dX4_init_5 : decode cX4_init 5 = .ok (.iconst 5, 1) := by decide +kernel
theorem dX4_init_6 : decode cX4_init 6 = .ok (.newarray .int, 2) := by decide +kernel
theorem dX4_init_8 : decode cX4_init 8 = .ok (.putfield 9, 3) := by decide +kernel
theorem dX4_init_11 : decode cX4_init 11 = .ok (.aload_n 0, 1) := by decide +kernel
theorem dX4_init_12 : decode cX4_init 12 = .ok (.bipush 50, 2) := by decide +kernel
theorem dX4_init_14 : decode cX4_init 14 = .ok (.newarray .int, 2) := by decide +kernel
theorem dX4_init_16 : decode cX4_init 16 = .ok (.putfield 13, 3) := by decide +kernel
theorem dX4_init_19 : decode cX4_init 19 = .ok (.aload_n 0, 1) := by decide +kernel
theorem dX4_init_20 : decode cX4_init 20 = .ok (.bipush 50, 2) := by decide +kernel
theorem dX4_init_22 : decode cX4_init 22 = .ok (.newarray .int, 2) := by decide +kernel
theorem dX4_init_24 : decode cX4_init 24 = .ok (.putfield 16, 3) := by decide +kernel
theorem dX4_init_27 : decode cX4_init 27 = .ok (.aload_n 0, 1) := by decide +kernel
theorem dX4_init_28 : decode cX4_init 28 = .ok (.bipush 50, 2) := by decide +kernel
theorem dX4_init_30 : decode cX4_init 30 = .ok (.newarray .int, 2) := by decide +kernel
theorem dX4_init_32 : decode cX4_init 32 = .ok (.putfield 19, 3) := by decide +kernel
theorem dX4_init_35 : decode cX4_init 35 = .ok (.aload_n 0, 1) := by decide +kernel
theorem dX4_init_36 : decode cX4_init 36 = .ok (.bipush 10, 2) := by decide +kernel
theorem dX4_init_38 : decode cX4_init 38 = .ok (.newarray .int, 2) := by decide +kernel
theorem dX4_init_40 : decode cX4_init 40 = .ok (.putfield 22, 3) := by decide +kernel
theorem dX4_init_43 : decode cX4_init 43 = .ok (.aload_n 0, 1) := by decide +kernel
theorem dX4_init_44 : decode cX4_init 44 = .ok (.iconst 4, 1) := by decide +kernel
theorem dX4_init_45 : decode cX4_init 45 = .ok (.newarray .int, 2) := by decide +kernel
theorem dX4_init_47 : decode cX4_init 47 = .ok (.putfield 25, 3) := by decide +kernel
theorem dX4_init_50 : decode cX4_init 50 = .ok (.aload_n 0, 1) := by decide +kernel
theorem dX4_init_51 : decode cX4_init 51 = .ok (.iconst 4, 1) := by decide +kernel
theorem dX4_init_52 : decode cX4_init 52 = .ok (.newarray .int, 2) := by decide +kernel
theorem dX4_init_54 : decode cX4_init 54 = .ok (.putfield 28, 3) := by decide +kernel
theorem dX4_init_57 : decode cX4_init 57 = .ok (.aload_n 0, 1) := by decide +kernel
theorem dX4_init_58 : decode cX4_init 58 = .ok (.bipush 6, 2) := by decide +kernel
theorem dX4_init_60 : decode cX4_init 60 = .ok (.newarray .int, 2) := by decide +kernel
theorem dX4_init_62 : decode cX4_init 62 = .ok (.putfield 31, 3) := by decide +kernel
theorem dX4_init_65 : decode cX4_init 65 = .ok (.aload_n 0, 1) := by decide +kernel
theorem dX4_init_66 : decode cX4_init 66 = .ok (.bipush 6, 2) := by decide +kernel
theorem dX4_init_68 : decode cX4_init 68 = .ok (.newarray .int, 2) := by decide +kernel
theorem dX4_init_70 : decode cX4_init 70 = .ok (.putfield 34, 3) := by decide +kernel
theorem dX4_init_73 : decode cX4_init 73 = .ok (.aload_n 0, 1) := by decide +kernel
theorem dX4_init_74 : decode cX4_init 74 = .ok (.bipush 6, 2) := by decide +kernel
theorem dX4_init_76 : decode cX4_init 76 = .ok (.newarray .int, 2) := by decide +kernel
theorem dX4_init_78 : decode cX4_init 78 = .ok (.putfield 37, 3) := by decide +kernel
theorem dX4_init_81 : decode cX4_init 81 = .ok (.aload_n 0, 1) := by decide +kernel
theorem dX4_init_82 : decode cX4_init 82 = .ok (.bipush 6, 2) := by decide +kernel
theorem dX4_init_84 : decode cX4_init 84 = .ok (.newarray .int, 2) := by decide +kernel
theorem dX4_init_86 : decode cX4_init 86 = .ok (.putfield 40, 3) := by decide +kernel
theorem dX4_init_89 : decode cX4_init 89 = .ok (.aload_n 0, 1) := by decide +kernel
theorem dX4_init_90 : decode cX4_init 90 = .ok (.bipush 6, 2) := by decide +kernel
theorem dX4_init_92 : decode cX4_init 92 = .ok (.newarray .int, 2) := by decide +kernel
theorem dX4_init_94 : decode cX4_init 94 = .ok (.putfield 43, 3) := by decide +kernel
theorem dX4_init_97 : decode cX4_init 97 = .ok (.aload_n 0, 1) := by decide +kernel
theorem dX4_init_98 : decode cX4_init 98 = .ok (.bipush 24, 2) := by decide +kernel
theorem dX4_init_100 : decode cX4_init 100 = .ok (.newarray .int, 2) := by decide +kernel
theorem dX4_init_102 : decode cX4_init 102 = .ok (.putfield 46, 3) := by decide +kernel
theorem dX4_init_105 : decode cX4_init 105 = .ok (.aload_n 0, 1) := by decide +kernel
theorem dX4_init_106 : decode cX4_init 106 = .ok (.bipush 24, 2) := by decide +kernel
theorem dX4_init_108 : decode cX4_init 108 = .ok (.newarray .int, 2) := by decide +kernel
theorem dX4_init_110 : decode cX4_init 110 = .ok (.putfield 49, 3) := by decide +kernel
theorem dX4_init_113 : decode cX4_init 113 = .ok (.aload_n 0, 1) := by decide +kernel
theorem dX4_init_114 : decode cX4_init 114 = .ok (.bipush 24, 2) := by decide +kernel
theorem dX4_init_116 : decode cX4_init 116 = .ok (.newarray .int, 2) := by decide +kernel
theorem dX4_init_118 : decode cX4_init 118 = .ok (.putfield 52, 3) := by decide +kernel
theorem dX4_init_121 : decode cX4_init 121 = .ok (.aload_n 0, 1) := by decide +kernel
theorem dX4_init_122 : decode cX4_init 122 = .ok (.bipush 24, 2) := by decide +kernel
theorem dX4_init_124 : decode cX4_init 124 = .ok (.newarray .int, 2) := by decide +kernel
theorem dX4_init_126 : decode cX4_init 126 = .ok (.putfield 55, 3) := by decide +kernel
theorem dX4_init_129 : decode cX4_init 129 = .ok (.aload_n 0, 1) := by decide +kernel
theorem dX4_init_130 : decode cX4_init 130 = .ok (.bipush 50, 2) := by decide +kernel
theorem dX4_init_132 : decode cX4_init 132 = .ok (.newarray .int, 2) := by decide +kernel
theorem dX4_init_134 : decode cX4_init 134 = .ok (.putfield 58, 3) := by decide +kernel
theorem dX4_init_137 : decode cX4_init 137 = .ok (.aload_n 0, 1) := by decide +kernel
theorem dX4_init_138 : decode cX4_init 138 = .ok (.iconst 4, 1) := by decide +kernel
theorem dX4_init_139 : decode cX4_init 139 = .ok (.newarray .int, 2) := by decide +kernel
theorem dX4_init_141 : decode cX4_init 141 = .ok (.putfield 61, 3) := by decide +kernel
theorem dX4_init_144 : decode cX4_init 144 = .ok (.aload_n 0, 1) := by decide +kernel
theorem dX4_init_145 : decode cX4_init 145 = .ok (.iconst 4, 1) := by decide +kernel
theorem dX4_init_146 : decode cX4_init 146 = .ok (.newarray .int, 2) := by decide +kernel
theorem dX4_init_148 : decode cX4_init 148 = .ok (.putfield 64, 3) := by decide +kernel
theorem dX4_init_151 : decode cX4_init 151 = .ok (.aload_n 0, 1) := by decide +kernel
theorem dX4_init_152 : decode cX4_init 152 = .ok (.iconst 4, 1) := by decide +kernel
theorem dX4_init_153 : decode cX4_init 153 = .ok (.newarray .int, 2) := by decide +kernel
theorem dX4_init_155 : decode cX4_init 155 = .ok (.putfield 67, 3) := by decide +kernel
theorem dX4_init_158 : decode cX4_init 158 = .ok (.aload_n 0, 1) := by decide +kernel
theorem dX4_init_159 : decode cX4_init 159 = .ok (.bipush 10, 2) := by decide +kernel
theorem dX4_init_161 : decode cX4_init 161 = .ok (.newarray .int, 2) := by decide +kernel
theorem dX4_init_163 : decode cX4_init 163 = .ok (.putfield 70, 3) := by decide +kernel
theorem dX4_init_166 : decode cX4_init 166 = .ok (.iconst 0, 1) := by decide +kernel
theorem dX4_init_167 : decode cX4_init 167 = .ok (.istore_n 1, 1) := by decide +kernel
theorem dX4_init_168 : decode cX4_init 168 = .ok (.iload_n 1, 1) := by decide +kernel
theorem dX4_init_169 : decode cX4_init 169 = .ok (.bipush 10, 2) := by decide +kernel
theorem dX4_init_171 : decode cX4_init 171 = .ok (.if_icmp .ge 16, 3) := by decide +kernel
theorem dX4_init_174 : decode cX4_init 174 = .ok (.aload_n 0, 1) := by decide +kernel
theorem dX4_init_175 : decode cX4_init 175 = .ok (.getfield 22, 3) := by decide +kernel
theorem dX4_init_178 : decode cX4_init 178 = .ok (.iload_n 1, 1) := by decide +kernel
theorem dX4_init_179 : decode cX4_init 179 = .ok (.iconst (-1), 1) := by decide +kernel
theorem dX4_init_180 : decode cX4_init 180 = .ok (.iastore, 1) := by decide +kernel
theorem dX4_init_181 : decode cX4_init 181 = .ok (.iinc 1 1, 3) := by decide +kernel
theorem dX4_init_184 : decode cX4_init 184 = .ok (.goto (-16), 3) := by decide +kernel
theorem dX4_init_187 : decode cX4_init 187 = .ok (.iconst 0, 1) := by decide +kernel
theorem dX4_init_188 : decode cX4_init 188 = .ok (.istore_n 1, 1) := by decide +kernel
theorem dX4_init_189 : decode cX4_init 189 = .ok (.iload_n 1, 1) := by decide +kernel
theorem dX4_init_190 : decode cX4_init 190 = .ok (.iconst 4, 1) := by decide +kernel
theorem dX4_init_191 : decode cX4_init 191 = .ok (.if_icmp .ge 23, 3) := by decide +kernel
theorem dX4_init_194 : decode cX4_init 194 = .ok (.aload_n 0, 1) := by decide +kernel
theorem dX4_init_195 : decode cX4_init 195 = .ok (.getfield 25, 3) := by decide +kernel
theorem dX4_init_198 : decode cX4_init 198 = .ok (.iload_n 1, 1) := by decide +kernel
theorem dX4_init_199 : decode cX4_init 199 = .ok (.iconst 3, 1) := by decide +kernel
theorem dX4_init_200 : decode cX4_init 200 = .ok (.iastore, 1) := by decide +kernel
theorem dX4_init_201 : decode cX4_init 201 = .ok (.aload_n 0, 1) := by decide +kernel
theorem dX4_init_202 : decode cX4_init 202 = .ok (.getfield 28, 3) := by decide +kernel
theorem dX4_init_205 : decode cX4_init 205 = .ok (.iload_n 1, 1) := by decide +kernel
theorem dX4_init_206 : decode cX4_init 206 = .ok (.iconst 5, 1) := by decide +kernel
theorem dX4_init_207 : decode cX4_init 207 = .ok (.iastore, 1) := by decide +kernel
theorem dX4_init_208 : decode cX4_init 208 = .ok (.iinc 1 1, 3) := by decide +kernel
theorem dX4_init_211 : decode cX4_init 211 = .ok (.goto (-22), 3) := by decide +kernel
theorem dX4_init_214 : decode cX4_init 214 = .ok (.return_, 1) := by decide +kernel
theorem dX4_thrown_0 : decode cX4_thrown 0 = .ok (.aload_n 0, 1) := by decide +kernel
theorem dX4_thrown_1 : decode cX4_thrown 1 = .ok (.getfield 73, 3) := by decide +kernel
theorem dX4_thrown_4 : decode cX4_thrown 4 = .ok (.ireturn, 1) := by decide +kernel
theorem dX4_no_0 : decode cX4_no 0 = .ok (.aload_n 0, 1) := by decide +kernel
theorem dX4_no_1 : decode cX4_no 1 = .ok (.iload_n 1, 1) := by decide +kernel
theorem dX4_no_2 : decode cX4_no 2 = .ok (.putfield 73, 3) := by decide +kernel
theorem dX4_no_5 : decode cX4_no 5 = .ok (.iconst 0, 1) := by decide +kernel
theorem dX4_no_6 : decode cX4_no 6 = .ok (.ireturn, 1) := by decide +kernel
theorem dX4_isIn_0 : decode cX4_isIn 0 = .ok (.iload_n 0, 1) := by decide +kernel
theorem dX4_isIn_1 : decode cX4_isIn 1 = .ok (.iload_n 1, 1) := by decide +kernel
theorem dX4_isIn_2 : decode cX4_isIn 2 = .ok (.if_icmp .lt 12, 3) := by decide +kernel
theorem dX4_isIn_5 : decode cX4_isIn 5 = .ok (.iload_n 0, 1) := by decide +kernel
theorem dX4_isIn_6 : decode cX4_isIn 6 = .ok (.iload_n 2, 1) := by decide +kernel
theorem dX4_isIn_7 : decode cX4_isIn 7 = .ok (.if_icmp .gt 7, 3) := by decide +kernel
theorem dX4_isIn_10 : decode cX4_isIn 10 = .ok (.iconst 1, 1) := by decide +kernel
theorem dX4_isIn_11 : decode cX4_isIn 11 = .ok (.goto 4, 3) := by decide +kernel
theorem dX4_isIn_14 : decode cX4_isIn 14 = .ok (.iconst 0, 1) := by decide +kernel
theorem dX4_isIn_15 : decode cX4_isIn 15 = .ok (.ireturn, 1) := by decide +kernel
theorem dX4_isFount_0 : decode cX4_isFount 0 = .ok (.iload_n 1, 1) := by decide +kernel
theorem dX4_isFount_1 : decode cX4_isFount 1 = .ok (.iconst 0, 1) := by decide +kernel
theorem dX4_isFount_2 : decode cX4_isFount 2 = .ok (.aload_n 0, 1) := by decide +kernel
theorem dX4_isFount_3 : decode cX4_isFount 3 = .ok (.getfield 77, 3) := by decide +kernel
theorem dX4_isFount_6 : decode cX4_isFount 6 = .ok (.iconst 1, 1) := by decide +kernel
theorem dX4_isFount_7 : decode cX4_isFount 7 = .ok (.isub, 1) := by decide +kernel
theorem dX4_isFount_8 : decode cX4_isFount 8 = .ok (.invokestatic 80, 3) := by decide +kernel
theorem dX4_isFount_11 : decode cX4_isFount 11 = .ok (.ireturn, 1) := by decide +kernel
theorem dX4_isLetter_0 : decode cX4_isLetter 0 = .ok (.iload_n 0, 1) := by decide +kernel
theorem dX4_isLetter_1 : decode cX4_isLetter 1 = .ok (.iconst 0, 1) := by decide +kernel
theorem dX4_isLetter_2 : decode cX4_isLetter 2 = .ok (.bipush 9, 2) := by decide +kernel
theorem dX4_isLetter_4 : decode cX4_isLetter 4 = .ok (.invokestatic 80, 3) := by decide +kernel
theorem dX4_isLetter_7 : decode cX4_isLetter 7 = .ok (.ireturn, 1) := by decide +kernel
theorem dX4_isTown_0 : decode cX4_isTown 0 = .ok (.iload_n 0, 1) := by decide +kernel
theorem dX4_isTown_1 : decode cX4_isTown 1 = .ok (.iconst 0, 1) := by decide +kernel
theorem dX4_isTown_2 : decode cX4_isTown 2 = .ok (.iconst 3, 1) := by decide +kernel
theorem dX4_isTown_3 : decode cX4_isTown 3 = .ok (.invokestatic 80, 3) := by decide +kernel
theorem dX4_isTown_6 : decode cX4_isTown 6 = .ok (.ireturn, 1) := by decide +kernel
theorem dX4_isPoster_0 : decode cX4_isPoster 0 = .ok (.iload_n 1, 1) := by decide +kernel
theorem dX4_isPoster_1 : decode cX4_isPoster 1 = .ok (.iconst 0, 1) := by decide +kernel
theorem dX4_isPoster_2 : decode cX4_isPoster 2 = .ok (.aload_n 0, 1) := by decide +kernel
theorem dX4_isPoster_3 : decode cX4_isPoster 3 = .ok (.getfield 84, 3) := by decide +kernel
theorem dX4_isPoster_6 : decode cX4_isPoster 6 = .ok (.iconst 1, 1) := by decide +kernel
theorem dX4_isPoster_7 : decode cX4_isPoster 7 = .ok (.isub, 1) := by decide +kernel
theorem dX4_isPoster_8 : decode cX4_isPoster 8 = .ok (.invokestatic 80, 3) := by decide +kernel
theorem dX4_isPoster_11 : decode cX4_isPoster 11 = .ok (.ireturn, 1) := by decide +kernel
theorem dX4_size_0 : decode cX4_size 0 = .ok (.iconst 1, 1) := by decide +kernel
theorem dX4_size_1 : decode cX4_size 1 = .ok (.istore_n 1, 1) := by decide +kernel
theorem dX4_size_2 : decode cX4_size 2 = .ok (.iload_n 0, 1) := by decide +kernel
theorem dX4_size_3 : decode cX4_size 3 = .ok (.bipush 10, 2) := by decide +kernel
theorem dX4_size_5 : decode cX4_size 5 = .ok (.idiv, 1) := by decide +kernel
theorem dX4_size_6 : decode cX4_size 6 = .ok (.istore_n 2, 1) := by decide +kernel
theorem dX4_size_7 : decode cX4_size 7 = .ok (.iload_n 2, 1) := by decide +kernel
theorem dX4_size_8 : decode cX4_size 8 = .ok (.ifCond .le 14, 3) := by decide +kernel
theorem dX4_size_11 : decode cX4_size 11 = .ok (.iinc 1 1, 3) := by decide +kernel
theorem dX4_size_14 : decode cX4_size 14 = .ok (.iload_n 2, 1) := by decide +kernel
theorem dX4_size_15 : decode cX4_size 15 = .ok (.bipush 10, 2) := by decide +kernel
theorem dX4_size_17 : decode cX4_size 17 = .ok (.idiv, 1) := by decide +kernel
theorem dX4_size_18 : decode cX4_size 18 = .ok (.istore_n 2, 1) := by decide +kernel
theorem dX4_size_19 : decode cX4_size 19 = .ok (.goto (-12), 3) := by decide +kernel
theorem dX4_size_22 : decode cX4_size 22 = .ok (.iload_n 1, 1) := by decide +kernel
theorem dX4_size_23 : decode cX4_size 23 = .ok (.ireturn, 1) := by decide +kernel
theorem dX4_letterAt_0 : decode cX4_letterAt 0 = .ok (.iload_n 0, 1) := by decide +kernel
theorem dX4_letterAt_1 : decode cX4_letterAt 1 = .ok (.istore_n 2, 1) := by decide +kernel
theorem dX4_letterAt_2 : decode cX4_letterAt 2 = .ok (.iconst 0, 1) := by decide +kernel
theorem dX4_letterAt_3 : decode cX4_letterAt 3 = .ok (.istore_n 3, 1) := by decide +kernel
theorem dX4_letterAt_4 : decode cX4_letterAt 4 = .ok (.iload_n 3, 1) := by decide +kernel
theorem dX4_letterAt_5 : decode cX4_letterAt 5 = .ok (.iload_n 1, 1) := by decide +kernel
theorem dX4_letterAt_6 : decode cX4_letterAt 6 = .ok (.if_icmp .ge 14, 3) := by decide +kernel
theorem dX4_letterAt_9 : decode cX4_letterAt 9 = .ok (.iload_n 2, 1) := by decide +kernel
theorem dX4_letterAt_10 : decode cX4_letterAt 10 = .ok (.bipush 10, 2) := by decide +kernel
theorem dX4_letterAt_12 : decode cX4_letterAt 12 = .ok (.idiv, 1) := by decide +kernel
theorem dX4_letterAt_13 : decode cX4_letterAt 13 = .ok (.istore_n 2, 1) := by decide +kernel
theorem dX4_letterAt_14 : decode cX4_letterAt 14 = .ok (.iinc 3 1, 3) := by decide +kernel
theorem dX4_letterAt_17 : decode cX4_letterAt 17 = .ok (.goto (-13), 3) := by decide +kernel
theorem dX4_letterAt_20 : decode cX4_letterAt 20 = .ok (.iload_n 2, 1) := by decide +kernel
theorem dX4_letterAt_21 : decode cX4_letterAt 21 = .ok (.bipush 10, 2) := by decide +kernel
theorem dX4_letterAt_23 : decode cX4_letterAt 23 = .ok (.irem, 1) := by decide +kernel
theorem dX4_letterAt_24 : decode cX4_letterAt 24 = .ok (.ireturn, 1) := by decide +kernel
theorem dX4_isLeft_0 : decode cX4_isLeft 0 = .ok (.bipush 10, 2) := by decide +kernel
theorem dX4_isLeft_2 : decode cX4_isLeft 2 = .ok (.iload_n 1, 1) := by decide +kernel
theorem dX4_isLeft_3 : decode cX4_isLeft 3 = .ok (.imul, 1) := by decide +kernel
theorem dX4_isLeft_4 : decode cX4_isLeft 4 = .ok (.iload_n 2, 1) := by decide +kernel
theorem dX4_isLeft_5 : decode cX4_isLeft 5 = .ok (.iadd, 1) := by decide +kernel
theorem dX4_isLeft_6 : decode cX4_isLeft 6 = .ok (.istore_n 3, 1) := by decide +kernel
theorem dX4_isLeft_7 : decode cX4_isLeft 7 = .ok (.aload_n 0, 1) := by decide +kernel
theorem dX4_isLeft_8 : decode cX4_isLeft 8 = .ok (.getfield 13, 3) := by decide +kernel
theorem dX4_isLeft_11 : decode cX4_isLeft 11 = .ok (.iload_n 3, 1) := by decide +kernel
theorem dX4_isLeft_12 : decode cX4_isLeft 12 = .ok (.iaload, 1) := by decide +kernel
theorem dX4_isLeft_13 : decode cX4_isLeft 13 = .ok (.aload_n 0, 1) := by decide +kernel
theorem dX4_isLeft_14 : decode cX4_isLeft 14 = .ok (.getfield 16, 3) := by decide +kernel
theorem dX4_isLeft_17 : decode cX4_isLeft 17 = .ok (.iload_n 3, 1) := by decide +kernel
theorem dX4_isLeft_18 : decode cX4_isLeft 18 = .ok (.iaload, 1) := by decide +kernel
theorem dX4_isLeft_19 : decode cX4_isLeft 19 = .ok (.isub, 1) := by decide +kernel
theorem dX4_isLeft_20 : decode cX4_isLeft 20 = .ok (.aload_n 0, 1) := by decide +kernel
theorem dX4_isLeft_21 : decode cX4_isLeft 21 = .ok (.getfield 58, 3) := by decide +kernel
theorem dX4_isLeft_24 : decode cX4_isLeft 24 = .ok (.iload_n 3, 1) := by decide +kernel
theorem dX4_isLeft_25 : decode cX4_isLeft 25 = .ok (.iaload, 1) := by decide +kernel
theorem dX4_isLeft_26 : decode cX4_isLeft 26 = .ok (.isub, 1) := by decide +kernel
theorem dX4_isLeft_27 : decode cX4_isLeft 27 = .ok (.aload_n 0, 1) := by decide +kernel
theorem dX4_isLeft_28 : decode cX4_isLeft 28 = .ok (.getfield 70, 3) := by decide +kernel
theorem dX4_isLeft_31 : decode cX4_isLeft 31 = .ok (.iload_n 2, 1) := by decide +kernel
theorem dX4_isLeft_32 : decode cX4_isLeft 32 = .ok (.iaload, 1) := by decide +kernel
theorem dX4_isLeft_33 : decode cX4_isLeft 33 = .ok (.isub, 1) := by decide +kernel
theorem dX4_isLeft_34 : decode cX4_isLeft 34 = .ok (.ifCond .le 7, 3) := by decide +kernel
theorem dX4_isLeft_37 : decode cX4_isLeft 37 = .ok (.iconst 1, 1) := by decide +kernel
theorem dX4_isLeft_38 : decode cX4_isLeft 38 = .ok (.goto 4, 3) := by decide +kernel
theorem dX4_isLeft_41 : decode cX4_isLeft 41 = .ok (.iconst 0, 1) := by decide +kernel
theorem dX4_isLeft_42 : decode cX4_isLeft 42 = .ok (.ireturn, 1) := by decide +kernel
theorem dX4_tryLine_0 : decode cX4_tryLine 0 = .ok (.iconst 0, 1) := by decide +kernel
theorem dX4_tryLine_1 : decode cX4_tryLine 1 = .ok (.istore_n 3, 1) := by decide +kernel
theorem dX4_tryLine_2 : decode cX4_tryLine 2 = .ok (.aload_n 0, 1) := by decide +kernel
theorem dX4_tryLine_3 : decode cX4_tryLine 3 = .ok (.iconst 0, 1) := by decide +kernel
theorem dX4_tryLine_4 : decode cX4_tryLine 4 = .ok (.putfield 87, 3) := by decide +kernel
theorem dX4_tryLine_7 : decode cX4_tryLine 7 = .ok (.iconst 0, 1) := by decide +kernel
theorem dX4_tryLine_8 : decode cX4_tryLine 8 = .ok (.istore 4, 2) := by decide +kernel
theorem dX4_tryLine_10 : decode cX4_tryLine 10 = .ok (.iload 4, 2) := by decide +kernel
theorem dX4_tryLine_12 : decode cX4_tryLine 12 = .ok (.bipush 10, 2) := by decide +kernel
theorem dX4_tryLine_14 : decode cX4_tryLine 14 = .ok (.if_icmp .ge 17, 3) := by decide +kernel
theorem dX4_tryLine_17 : decode cX4_tryLine 17 = .ok (.aload_n 0, 1) := by decide +kernel
theorem dX4_tryLine_18 : decode cX4_tryLine 18 = .ok (.getfield 70, 3) := by decide +kernel
theorem dX4_tryLine_21 : decode cX4_tryLine 21 = .ok (.iload 4, 2) := by decide +kernel
theorem dX4_tryLine_23 : decode cX4_tryLine 23 = .ok (.iconst 0, 1) := by decide +kernel
theorem dX4_tryLine_24 : decode cX4_tryLine 24 = .ok (.iastore, 1) := by decide +kernel
theorem dX4_tryLine_25 : decode cX4_tryLine 25 = .ok (.iinc 4 1, 3) := by decide +kernel
theorem dX4_tryLine_28 : decode cX4_tryLine 28 = .ok (.goto (-18), 3) := by decide +kernel
theorem dX4_tryLine_31 : decode cX4_tryLine 31 = .ok (.iload_n 2, 1) := by decide +kernel
theorem dX4_tryLine_32 : decode cX4_tryLine 32 = .ok (.invokestatic 90, 3) := by decide +kernel
theorem dX4_tryLine_35 : decode cX4_tryLine 35 = .ok (.iconst 1, 1) := by decide +kernel
theorem dX4_tryLine_36 : decode cX4_tryLine 36 = .ok (.isub, 1) := by decide +kernel
theorem dX4_tryLine_37 : decode cX4_tryLine 37 = .ok (.istore 4, 2) := by decide +kernel
theorem dX4_tryLine_39 : decode cX4_tryLine 39 = .ok (.iload 4, 2) := by decide +kernel
theorem dX4_tryLine_41 : decode cX4_tryLine 41 = .ok (.ifCond .lt 82, 3) := by decide +kernel
theorem dX4_tryLine_44 : decode cX4_tryLine 44 = .ok (.iload_n 2, 1) := by decide +kernel
theorem dX4_tryLine_45 : decode cX4_tryLine 45 = .ok (.iload 4, 2) := by decide +kernel
theorem dX4_tryLine_47 : decode cX4_tryLine 47 = .ok (.invokestatic 94, 3) := by decide +kernel
theorem dX4_tryLine_50 : decode cX4_tryLine 50 = .ok (.istore 5, 2) := by decide +kernel
theorem dX4_tryLine_52 : decode cX4_tryLine 52 = .ok (.aload_n 0, 1) := by decide +kernel
theorem dX4_tryLine_53 : decode cX4_tryLine 53 = .ok (.iload_n 1, 1) := by decide +kernel
theorem dX4_tryLine_54 : decode cX4_tryLine 54 = .ok (.iload 5, 2) := by decide +kernel
theorem dX4_tryLine_56 : decode cX4_tryLine 56 = .ok (.invokevirtual 98, 3) := by decide +kernel
theorem dX4_tryLine_59 : decode cX4_tryLine 59 = .ok (.ifCond .ne 33, 3) := by decide +kernel
theorem dX4_tryLine_62 : decode cX4_tryLine 62 = .ok (.aload_n 0, 1) := by decide +kernel
theorem dX4_tryLine_63 : decode cX4_tryLine 63 = .ok (.getfield 22, 3) := by decide +kernel
theorem dX4_tryLine_66 : decode cX4_tryLine 66 = .ok (.iload 5, 2) := by decide +kernel
theorem dX4_tryLine_68 : decode cX4_tryLine 68 = .ok (.iaload, 1) := by decide +kernel
theorem dX4_tryLine_69 : decode cX4_tryLine 69 = .ok (.istore 5, 2) := by decide +kernel
theorem dX4_tryLine_71 : decode cX4_tryLine 71 = .ok (.iinc 3 1, 3) := by decide +kernel
theorem dX4_tryLine_74 : decode cX4_tryLine 74 = .ok (.iload 5, 2) := by decide +kernel
theorem dX4_tryLine_76 : decode cX4_tryLine 76 = .ok (.iconst (-1), 1) := by decide +kernel
theorem dX4_tryLine_77 : decode cX4_tryLine 77 = .ok (.if_icmp .eq 13, 3) := by decide +kernel
theorem dX4_tryLine_80 : decode cX4_tryLine 80 = .ok (.aload_n 0, 1) := by decide +kernel
theorem dX4_tryLine_81 : decode cX4_tryLine 81 = .ok (.iload_n 1, 1) := by decide +kernel
theorem dX4_tryLine_82 : decode cX4_tryLine 82 = .ok (.iload 5, 2) := by decide +kernel
theorem dX4_tryLine_84 : decode cX4_tryLine 84 = .ok (.invokevirtual 98, 3) := by decide +kernel
theorem dX4_tryLine_87 : decode cX4_tryLine 87 = .ok (.ifCond .ne 5, 3) := by decide +kernel
theorem dX4_tryLine_90 : decode cX4_tryLine 90 = .ok (.iconst (-1), 1) := by decide +kernel
theorem dX4_tryLine_91 : decode cX4_tryLine 91 = .ok (.ireturn, 1) := by decide +kernel
theorem dX4_tryLine_92 : decode cX4_tryLine 92 = .ok (.aload_n 0, 1) := by decide +kernel
theorem dX4_tryLine_93 : decode cX4_tryLine 93 = .ok (.getfield 70, 3) := by decide +kernel
theorem dX4_tryLine_96 : decode cX4_tryLine 96 = .ok (.iload 5, 2) := by decide +kernel
theorem dX4_tryLine_98 : decode cX4_tryLine 98 = .ok (.dup2, 1) := by decide +kernel
theorem dX4_tryLine_99 : decode cX4_tryLine 99 = .ok (.iaload, 1) := by decide +kernel
theorem dX4_tryLine_100 : decode cX4_tryLine 100 = .ok (.iconst 1, 1) := by decide +kernel
theorem dX4_tryLine_101 : decode cX4_tryLine 101 = .ok (.iadd, 1) := by decide +kernel
theorem dX4_tryLine_102 : decode cX4_tryLine 102 = .ok (.iastore, 1) := by decide +kernel
theorem dX4_tryLine_103 : decode cX4_tryLine 103 = .ok (.aload_n 0, 1) := by decide +kernel
theorem dX4_tryLine_104 : decode cX4_tryLine 104 = .ok (.bipush 10, 2) := by decide +kernel
theorem dX4_tryLine_106 : decode cX4_tryLine 106 = .ok (.aload_n 0, 1) := by decide +kernel
theorem dX4_tryLine_107 : decode cX4_tryLine 107 = .ok (.getfield 87, 3) := by decide +kernel
theorem dX4_tryLine_110 : decode cX4_tryLine 110 = .ok (.imul, 1) := by decide +kernel
theorem dX4_tryLine_111 : decode cX4_tryLine 111 = .ok (.iload 5, 2) := by decide +kernel
theorem dX4_tryLine_113 : decode cX4_tryLine 113 = .ok (.iadd, 1) := by decide +kernel
theorem dX4_tryLine_114 : decode cX4_tryLine 114 = .ok (.putfield 87, 3) := by decide +kernel
theorem dX4_tryLine_117 : decode cX4_tryLine 117 = .ok (.iinc 4 (-1), 3) := by decide +kernel
theorem dX4_tryLine_120 : decode cX4_tryLine 120 = .ok (.goto (-81), 3) := by decide +kernel
theorem dX4_tryLine_123 : decode cX4_tryLine 123 = .ok (.iload_n 3, 1) := by decide +kernel
theorem dX4_tryLine_124 : decode cX4_tryLine 124 = .ok (.ireturn, 1) := by decide +kernel
theorem dX4_isBetter_0 : decode cX4_isBetter 0 = .ok (.iload_n 1, 1) := by decide +kernel
theorem dX4_isBetter_1 : decode cX4_isBetter 1 = .ok (.iconst (-1), 1) := by decide +kernel
theorem dX4_isBetter_2 : decode cX4_isBetter 2 = .ok (.if_icmp .eq 9, 3) := by decide +kernel
theorem dX4_isBetter_5 : decode cX4_isBetter 5 = .ok (.iload 4, 2) := by decide +kernel
theorem dX4_isBetter_7 : decode cX4_isBetter 7 = .ok (.iconst (-1), 1) := by decide +kernel
theorem dX4_isBetter_8 : decode cX4_isBetter 8 = .ok (.if_icmp .ne 14, 3) := by decide +kernel
theorem dX4_isBetter_11 : decode cX4_isBetter 11 = .ok (.iload_n 1, 1) := by decide +kernel
theorem dX4_isBetter_12 : decode cX4_isBetter 12 = .ok (.iconst (-1), 1) := by decide +kernel
theorem dX4_isBetter_13 : decode cX4_isBetter 13 = .ok (.if_icmp .eq 7, 3) := by decide +kernel
theorem dX4_isBetter_16 : decode cX4_isBetter 16 = .ok (.iconst 1, 1) := by decide +kernel
theorem dX4_isBetter_17 : decode cX4_isBetter 17 = .ok (.goto 4, 3) := by decide +kernel
theorem dX4_isBetter_20 : decode cX4_isBetter 20 = .ok (.iconst 0, 1) := by decide +kernel
theorem dX4_isBetter_21 : decode cX4_isBetter 21 = .ok (.ireturn, 1) := by decide +kernel
theorem dX4_isBetter_22 : decode cX4_isBetter 22 = .ok (.iload_n 1, 1) := by decide +kernel
theorem dX4_isBetter_23 : decode cX4_isBetter 23 = .ok (.iload_n 3, 1) := by decide +kernel
theorem dX4_isBetter_24 : decode cX4_isBetter 24 = .ok (.if_icmp .lt 24, 3) := by decide +kernel
theorem dX4_isBetter_27 : decode cX4_isBetter 27 = .ok (.iload_n 1, 1) := by decide +kernel
theorem dX4_isBetter_28 : decode cX4_isBetter 28 = .ok (.iload_n 3, 1) := by decide +kernel
theorem dX4_isBetter_29 : decode cX4_isBetter 29 = .ok (.if_icmp .ne 23, 3) := by decide +kernel
theorem dX4_isBetter_32 : decode cX4_isBetter 32 = .ok (.aload_n 0, 1) := by decide +kernel
theorem dX4_isBetter_33 : decode cX4_isBetter 33 = .ok (.getfield 9, 3) := by decide +kernel
theorem dX4_isBetter_36 : decode cX4_isBetter 36 = .ok (.iload_n 2, 1) := by decide +kernel
theorem dX4_isBetter_37 : decode cX4_isBetter 37 = .ok (.iaload, 1) := by decide +kernel
theorem dX4_isBetter_38 : decode cX4_isBetter 38 = .ok (.aload_n 0, 1) := by decide +kernel
theorem dX4_isBetter_39 : decode cX4_isBetter 39 = .ok (.getfield 9, 3) := by decide +kernel
theorem dX4_isBetter_42 : decode cX4_isBetter 42 = .ok (.iload 4, 2) := by decide +kernel
theorem dX4_isBetter_44 : decode cX4_isBetter 44 = .ok (.iaload, 1) := by decide +kernel
theorem dX4_isBetter_45 : decode cX4_isBetter 45 = .ok (.if_icmp .le 7, 3) := by decide +kernel
theorem dX4_isBetter_48 : decode cX4_isBetter 48 = .ok (.iconst 1, 1) := by decide +kernel
theorem dX4_isBetter_49 : decode cX4_isBetter 49 = .ok (.goto 4, 3) := by decide +kernel
theorem dX4_isBetter_52 : decode cX4_isBetter 52 = .ok (.iconst 0, 1) := by decide +kernel
theorem dX4_isBetter_53 : decode cX4_isBetter 53 = .ok (.ireturn, 1) := by decide +kernel
theorem dX4_bestOf_0 : decode cX4_bestOf 0 = .ok (.iconst (-1), 1) := by decide +kernel
theorem dX4_bestOf_1 : decode cX4_bestOf 1 = .ok (.istore_n 3, 1) := by decide +kernel
theorem dX4_bestOf_2 : decode cX4_bestOf 2 = .ok (.iconst 0, 1) := by decide +kernel
theorem dX4_bestOf_3 : decode cX4_bestOf 3 = .ok (.istore 4, 2) := by decide +kernel
theorem dX4_bestOf_5 : decode cX4_bestOf 5 = .ok (.iconst 0, 1) := by decide +kernel
theorem dX4_bestOf_6 : decode cX4_bestOf 6 = .ok (.istore 5, 2) := by decide +kernel
theorem dX4_bestOf_8 : decode cX4_bestOf 8 = .ok (.iload 5, 2) := by decide +kernel
theorem dX4_bestOf_10 : decode cX4_bestOf 10 = .ok (.aload_n 0, 1) := by decide +kernel
theorem dX4_bestOf_11 : decode cX4_bestOf 11 = .ok (.getfield 77, 3) := by decide +kernel
theorem dX4_bestOf_14 : decode cX4_bestOf 14 = .ok (.if_icmp .ge 61, 3) := by decide +kernel
theorem dX4_bestOf_17 : decode cX4_bestOf 17 = .ok (.aload_n 0, 1) := by decide +kernel
theorem dX4_bestOf_18 : decode cX4_bestOf 18 = .ok (.getfield 9, 3) := by decide +kernel
theorem dX4_bestOf_21 : decode cX4_bestOf 21 = .ok (.iload 5, 2) := by decide +kernel
theorem dX4_bestOf_23 : decode cX4_bestOf 23 = .ok (.iaload, 1) := by decide +kernel
theorem dX4_bestOf_24 : decode cX4_bestOf 24 = .ok (.aload_n 0, 1) := by decide +kernel
theorem dX4_bestOf_25 : decode cX4_bestOf 25 = .ok (.getfield 34, 3) := by decide +kernel
theorem dX4_bestOf_28 : decode cX4_bestOf 28 = .ok (.iload_n 1, 1) := by decide +kernel
theorem dX4_bestOf_29 : decode cX4_bestOf 29 = .ok (.iaload, 1) := by decide +kernel
theorem dX4_bestOf_30 : decode cX4_bestOf 30 = .ok (.if_icmp .ge 6, 3) := by decide +kernel
theorem dX4_bestOf_33 : decode cX4_bestOf 33 = .ok (.goto 36, 3) := by decide +kernel
theorem dX4_bestOf_36 : decode cX4_bestOf 36 = .ok (.aload_n 0, 1) := by decide +kernel
theorem dX4_bestOf_37 : decode cX4_bestOf 37 = .ok (.iload 5, 2) := by decide +kernel
theorem dX4_bestOf_39 : decode cX4_bestOf 39 = .ok (.iload_n 2, 1) := by decide +kernel
theorem dX4_bestOf_40 : decode cX4_bestOf 40 = .ok (.invokevirtual 102, 3) := by decide +kernel
theorem dX4_bestOf_43 : decode cX4_bestOf 43 = .ok (.istore 6, 2) := by decide +kernel
theorem dX4_bestOf_45 : decode cX4_bestOf 45 = .ok (.aload_n 0, 1) := by decide +kernel
theorem dX4_bestOf_46 : decode cX4_bestOf 46 = .ok (.iload 6, 2) := by decide +kernel
theorem dX4_bestOf_48 : decode cX4_bestOf 48 = .ok (.iload 5, 2) := by decide +kernel
theorem dX4_bestOf_50 : decode cX4_bestOf 50 = .ok (.iload 4, 2) := by decide +kernel
theorem dX4_bestOf_52 : decode cX4_bestOf 52 = .ok (.iload_n 3, 1) := by decide +kernel
theorem dX4_bestOf_53 : decode cX4_bestOf 53 = .ok (.invokevirtual 105, 3) := by decide +kernel
theorem dX4_bestOf_56 : decode cX4_bestOf 56 = .ok (.ifCond .ne 6, 3) := by decide +kernel
theorem dX4_bestOf_59 : decode cX4_bestOf 59 = .ok (.goto 10, 3) := by decide +kernel
theorem dX4_bestOf_62 : decode cX4_bestOf 62 = .ok (.iload 5, 2) := by decide +kernel
theorem dX4_bestOf_64 : decode cX4_bestOf 64 = .ok (.istore_n 3, 1) := by decide +kernel
theorem dX4_bestOf_65 : decode cX4_bestOf 65 = .ok (.iload 6, 2) := by decide +kernel
theorem dX4_bestOf_67 : decode cX4_bestOf 67 = .ok (.istore 4, 2) := by decide +kernel
theorem dX4_bestOf_69 : decode cX4_bestOf 69 = .ok (.iinc 5 1, 3) := by decide +kernel
theorem dX4_bestOf_72 : decode cX4_bestOf 72 = .ok (.goto (-64), 3) := by decide +kernel
theorem dX4_bestOf_75 : decode cX4_bestOf 75 = .ok (.iload_n 3, 1) := by decide +kernel
theorem dX4_bestOf_76 : decode cX4_bestOf 76 = .ok (.ireturn, 1) := by decide +kernel
theorem dX4_tryPoster_0 : decode cX4_tryPoster 0 = .ok (.iconst 0, 1) := by decide +kernel
theorem dX4_tryPoster_1 : decode cX4_tryPoster 1 = .ok (.istore_n 2, 1) := by decide +kernel
theorem dX4_tryPoster_2 : decode cX4_tryPoster 2 = .ok (.iload_n 2, 1) := by decide +kernel
theorem dX4_tryPoster_3 : decode cX4_tryPoster 3 = .ok (.bipush 50, 2) := by decide +kernel
theorem dX4_tryPoster_5 : decode cX4_tryPoster 5 = .ok (.if_icmp .ge 16, 3) := by decide +kernel
theorem dX4_tryPoster_8 : decode cX4_tryPoster 8 = .ok (.aload_n 0, 1) := by decide +kernel
theorem dX4_tryPoster_9 : decode cX4_tryPoster 9 = .ok (.getfield 58, 3) := by decide +kernel
theorem dX4_tryPoster_12 : decode cX4_tryPoster 12 = .ok (.iload_n 2, 1) := by decide +kernel
theorem dX4_tryPoster_13 : decode cX4_tryPoster 13 = .ok (.iconst 0, 1) := by decide +kernel
theorem dX4_tryPoster_14 : decode cX4_tryPoster 14 = .ok (.iastore, 1) := by decide +kernel
theorem dX4_tryPoster_15 : decode cX4_tryPoster 15 = .ok (.iinc 2 1, 3) := by decide +kernel
theorem dX4_tryPoster_18 : decode cX4_tryPoster 18 = .ok (.goto (-16), 3) := by decide +kernel
theorem dX4_tryPoster_21 : decode cX4_tryPoster 21 = .ok (.aload_n 0, 1) := by decide +kernel
theorem dX4_tryPoster_22 : decode cX4_tryPoster 22 = .ok (.getfield 40, 3) := by decide +kernel
theorem dX4_tryPoster_25 : decode cX4_tryPoster 25 = .ok (.iload_n 1, 1) := by decide +kernel
theorem dX4_tryPoster_26 : decode cX4_tryPoster 26 = .ok (.iaload, 1) := by decide +kernel
theorem dX4_tryPoster_27 : decode cX4_tryPoster 27 = .ok (.iconst 1, 1) := by decide +kernel
theorem dX4_tryPoster_28 : decode cX4_tryPoster 28 = .ok (.if_icmp .eq 12, 3) := by decide +kernel
theorem dX4_tryPoster_31 : decode cX4_tryPoster 31 = .ok (.aload_n 0, 1) := by decide +kernel
theorem dX4_tryPoster_32 : decode cX4_tryPoster 32 = .ok (.getfield 37, 3) := by decide +kernel
theorem dX4_tryPoster_35 : decode cX4_tryPoster 35 = .ok (.iload_n 1, 1) := by decide +kernel
theorem dX4_tryPoster_36 : decode cX4_tryPoster 36 = .ok (.iaload, 1) := by decide +kernel
theorem dX4_tryPoster_37 : decode cX4_tryPoster 37 = .ok (.ifCond .ne 5, 3) := by decide +kernel
theorem dX4_tryPoster_40 : decode cX4_tryPoster 40 = .ok (.iconst (-1), 1) := by decide +kernel
theorem dX4_tryPoster_41 : decode cX4_tryPoster 41 = .ok (.ireturn, 1) := by decide +kernel
theorem dX4_tryPoster_42 : decode cX4_tryPoster 42 = .ok (.iconst 0, 1) := by decide +kernel
theorem dX4_tryPoster_43 : decode cX4_tryPoster 43 = .ok (.istore_n 2, 1) := by decide +kernel
theorem dX4_tryPoster_44 : decode cX4_tryPoster 44 = .ok (.iconst 0, 1) := by decide +kernel
theorem dX4_tryPoster_45 : decode cX4_tryPoster 45 = .ok (.istore_n 3, 1) := by decide +kernel
theorem dX4_tryPoster_46 : decode cX4_tryPoster 46 = .ok (.iload_n 3, 1) := by decide +kernel
theorem dX4_tryPoster_47 : decode cX4_tryPoster 47 = .ok (.aload_n 0, 1) := by decide +kernel
theorem dX4_tryPoster_48 : decode cX4_tryPoster 48 = .ok (.getfield 37, 3) := by decide +kernel
theorem dX4_tryPoster_51 : decode cX4_tryPoster 51 = .ok (.iload_n 1, 1) := by decide +kernel
theorem dX4_tryPoster_52 : decode cX4_tryPoster 52 = .ok (.iaload, 1) := by decide +kernel
theorem dX4_tryPoster_53 : decode cX4_tryPoster 53 = .ok (.if_icmp .ge 118, 3) := by decide +kernel
theorem dX4_tryPoster_56 : decode cX4_tryPoster 56 = .ok (.aload_n 0, 1) := by decide +kernel
theorem dX4_tryPoster_57 : decode cX4_tryPoster 57 = .ok (.getfield 46, 3) := by decide +kernel
theorem dX4_tryPoster_60 : decode cX4_tryPoster 60 = .ok (.iconst 4, 1) := by decide +kernel
theorem dX4_tryPoster_61 : decode cX4_tryPoster 61 = .ok (.iload_n 1, 1) := by decide +kernel
theorem dX4_tryPoster_62 : decode cX4_tryPoster 62 = .ok (.imul, 1) := by decide +kernel
theorem dX4_tryPoster_63 : decode cX4_tryPoster 63 = .ok (.iload_n 3, 1) := by decide +kernel
theorem dX4_tryPoster_64 : decode cX4_tryPoster 64 = .ok (.iadd, 1) := by decide +kernel
theorem dX4_tryPoster_65 : decode cX4_tryPoster 65 = .ok (.iaload, 1) := by decide +kernel
theorem dX4_tryPoster_66 : decode cX4_tryPoster 66 = .ok (.istore 4, 2) := by decide +kernel
theorem dX4_tryPoster_68 : decode cX4_tryPoster 68 = .ok (.aload_n 0, 1) := by decide +kernel
theorem dX4_tryPoster_69 : decode cX4_tryPoster 69 = .ok (.iload_n 1, 1) := by decide +kernel
theorem dX4_tryPoster_70 : decode cX4_tryPoster 70 = .ok (.iload 4, 2) := by decide +kernel
theorem dX4_tryPoster_72 : decode cX4_tryPoster 72 = .ok (.invokevirtual 109, 3) := by decide +kernel
theorem dX4_tryPoster_75 : decode cX4_tryPoster 75 = .ok (.istore 5, 2) := by decide +kernel
theorem dX4_tryPoster_77 : decode cX4_tryPoster 77 = .ok (.iload 5, 2) := by decide +kernel
theorem dX4_tryPoster_79 : decode cX4_tryPoster 79 = .ok (.iconst (-1), 1) := by decide +kernel
theorem dX4_tryPoster_80 : decode cX4_tryPoster 80 = .ok (.if_icmp .ne 5, 3) := by decide +kernel
theorem dX4_tryPoster_83 : decode cX4_tryPoster 83 = .ok (.iconst (-1), 1) := by decide +kernel
theorem dX4_tryPoster_84 : decode cX4_tryPoster 84 = .ok (.ireturn, 1) := by decide +kernel
theorem dX4_tryPoster_85 : decode cX4_tryPoster 85 = .ok (.aload_n 0, 1) := by decide +kernel
theorem dX4_tryPoster_86 : decode cX4_tryPoster 86 = .ok (.getfield 61, 3) := by decide +kernel
theorem dX4_tryPoster_89 : decode cX4_tryPoster 89 = .ok (.iload_n 3, 1) := by decide +kernel
theorem dX4_tryPoster_90 : decode cX4_tryPoster 90 = .ok (.iload 5, 2) := by decide +kernel
theorem dX4_tryPoster_92 : decode cX4_tryPoster 92 = .ok (.iastore, 1) := by decide +kernel
theorem dX4_tryPoster_93 : decode cX4_tryPoster 93 = .ok (.aload_n 0, 1) := by decide +kernel
theorem dX4_tryPoster_94 : decode cX4_tryPoster 94 = .ok (.getfield 64, 3) := by decide +kernel
theorem dX4_tryPoster_97 : decode cX4_tryPoster 97 = .ok (.iload_n 3, 1) := by decide +kernel
theorem dX4_tryPoster_98 : decode cX4_tryPoster 98 = .ok (.aload_n 0, 1) := by decide +kernel
theorem dX4_tryPoster_99 : decode cX4_tryPoster 99 = .ok (.iload 5, 2) := by decide +kernel
theorem dX4_tryPoster_101 : decode cX4_tryPoster 101 = .ok (.iload 4, 2) := by decide +kernel
theorem dX4_tryPoster_103 : decode cX4_tryPoster 103 = .ok (.invokevirtual 102, 3) := by decide +kernel
theorem dX4_tryPoster_106 : decode cX4_tryPoster 106 = .ok (.iastore, 1) := by decide +kernel
theorem dX4_tryPoster_107 : decode cX4_tryPoster 107 = .ok (.aload_n 0, 1) := by decide +kernel
theorem dX4_tryPoster_108 : decode cX4_tryPoster 108 = .ok (.getfield 67, 3) := by decide +kernel
theorem dX4_tryPoster_111 : decode cX4_tryPoster 111 = .ok (.iload_n 3, 1) := by decide +kernel
theorem dX4_tryPoster_112 : decode cX4_tryPoster 112 = .ok (.aload_n 0, 1) := by decide +kernel
theorem dX4_tryPoster_113 : decode cX4_tryPoster 113 = .ok (.getfield 87, 3) := by decide +kernel
theorem dX4_tryPoster_116 : decode cX4_tryPoster 116 = .ok (.iastore, 1) := by decide +kernel
theorem dX4_tryPoster_117 : decode cX4_tryPoster 117 = .ok (.iconst 0, 1) := by decide +kernel
theorem dX4_tryPoster_118 : decode cX4_tryPoster 118 = .ok (.istore 6, 2) := by decide +kernel
theorem dX4_tryPoster_120 : decode cX4_tryPoster 120 = .ok (.iload 6, 2) := by decide +kernel
theorem dX4_tryPoster_122 : decode cX4_tryPoster 122 = .ok (.bipush 10, 2) := by decide +kernel
theorem dX4_tryPoster_124 : decode cX4_tryPoster 124 = .ok (.if_icmp .ge 32, 3) := by decide +kernel
theorem dX4_tryPoster_127 : decode cX4_tryPoster 127 = .ok (.aload_n 0, 1) := by decide +kernel
theorem dX4_tryPoster_128 : decode cX4_tryPoster 128 = .ok (.getfield 58, 3) := by decide +kernel
theorem dX4_tryPoster_131 : decode cX4_tryPoster 131 = .ok (.bipush 10, 2) := by decide +kernel
theorem dX4_tryPoster_133 : decode cX4_tryPoster 133 = .ok (.iload 5, 2) := by decide +kernel
theorem dX4_tryPoster_135 : decode cX4_tryPoster 135 = .ok (.imul, 1) := by decide +kernel
theorem dX4_tryPoster_136 : decode cX4_tryPoster 136 = .ok (.iload 6, 2) := by decide +kernel
theorem dX4_tryPoster_138 : decode cX4_tryPoster 138 = .ok (.iadd, 1) := by decide +kernel
theorem dX4_tryPoster_139 : decode cX4_tryPoster 139 = .ok (.dup2, 1) := by decide +kernel
theorem dX4_tryPoster_140 : decode cX4_tryPoster 140 = .ok (.iaload, 1) := by decide +kernel
theorem dX4_tryPoster_141 : decode cX4_tryPoster 141 = .ok (.aload_n 0, 1) := by decide +kernel
theorem dX4_tryPoster_142 : decode cX4_tryPoster 142 = .ok (.getfield 70, 3) := by decide +kernel
theorem dX4_tryPoster_145 : decode cX4_tryPoster 145 = .ok (.iload 6, 2) := by decide +kernel
theorem dX4_tryPoster_147 : decode cX4_tryPoster 147 = .ok (.iaload, 1) := by decide +kernel
theorem dX4_tryPoster_148 : decode cX4_tryPoster 148 = .ok (.iadd, 1) := by decide +kernel
theorem dX4_tryPoster_149 : decode cX4_tryPoster 149 = .ok (.iastore, 1) := by decide +kernel
theorem dX4_tryPoster_150 : decode cX4_tryPoster 150 = .ok (.iinc 6 1, 3) := by decide +kernel
theorem dX4_tryPoster_153 : decode cX4_tryPoster 153 = .ok (.goto (-33), 3) := by decide +kernel
theorem dX4_tryPoster_156 : decode cX4_tryPoster 156 = .ok (.iload_n 2, 1) := by decide +kernel
theorem dX4_tryPoster_157 : decode cX4_tryPoster 157 = .ok (.aload_n 0, 1) := by decide +kernel
theorem dX4_tryPoster_158 : decode cX4_tryPoster 158 = .ok (.getfield 64, 3) := by decide +kernel
theorem dX4_tryPoster_161 : decode cX4_tryPoster 161 = .ok (.iload_n 3, 1) := by decide +kernel
theorem dX4_tryPoster_162 : decode cX4_tryPoster 162 = .ok (.iaload, 1) := by decide +kernel
theorem dX4_tryPoster_163 : decode cX4_tryPoster 163 = .ok (.iadd, 1) := by decide +kernel
theorem dX4_tryPoster_164 : decode cX4_tryPoster 164 = .ok (.istore_n 2, 1) := by decide +kernel
theorem dX4_tryPoster_165 : decode cX4_tryPoster 165 = .ok (.iinc 3 1, 3) := by decide +kernel
theorem dX4_tryPoster_168 : decode cX4_tryPoster 168 = .ok (.goto (-122), 3) := by decide +kernel
theorem dX4_tryPoster_171 : decode cX4_tryPoster 171 = .ok (.iload_n 2, 1) := by decide +kernel
theorem dX4_tryPoster_172 : decode cX4_tryPoster 172 = .ok (.ireturn, 1) := by decide +kernel
theorem dX4_letters_0 : decode cX4_letters 0 = .ok (.iconst 0, 1) := by decide +kernel
theorem dX4_letters_1 : decode cX4_letters 1 = .ok (.istore_n 2, 1) := by decide +kernel
theorem dX4_letters_2 : decode cX4_letters 2 = .ok (.iconst 0, 1) := by decide +kernel
theorem dX4_letters_3 : decode cX4_letters 3 = .ok (.istore_n 3, 1) := by decide +kernel
theorem dX4_letters_4 : decode cX4_letters 4 = .ok (.iload_n 3, 1) := by decide +kernel
theorem dX4_letters_5 : decode cX4_letters 5 = .ok (.aload_n 0, 1) := by decide +kernel
theorem dX4_letters_6 : decode cX4_letters 6 = .ok (.getfield 37, 3) := by decide +kernel
theorem dX4_letters_9 : decode cX4_letters 9 = .ok (.iload_n 1, 1) := by decide +kernel
theorem dX4_letters_10 : decode cX4_letters 10 = .ok (.iaload, 1) := by decide +kernel
theorem dX4_letters_11 : decode cX4_letters 11 = .ok (.if_icmp .ge 25, 3) := by decide +kernel
theorem dX4_letters_14 : decode cX4_letters 14 = .ok (.iload_n 2, 1) := by decide +kernel
theorem dX4_letters_15 : decode cX4_letters 15 = .ok (.aload_n 0, 1) := by decide +kernel
theorem dX4_letters_16 : decode cX4_letters 16 = .ok (.getfield 46, 3) := by decide +kernel
theorem dX4_letters_19 : decode cX4_letters 19 = .ok (.iconst 4, 1) := by decide +kernel
theorem dX4_letters_20 : decode cX4_letters 20 = .ok (.iload_n 1, 1) := by decide +kernel
theorem dX4_letters_21 : decode cX4_letters 21 = .ok (.imul, 1) := by decide +kernel
theorem dX4_letters_22 : decode cX4_letters 22 = .ok (.iload_n 3, 1) := by decide +kernel
theorem dX4_letters_23 : decode cX4_letters 23 = .ok (.iadd, 1) := by decide +kernel
theorem dX4_letters_24 : decode cX4_letters 24 = .ok (.iaload, 1) := by decide +kernel
theorem dX4_letters_25 : decode cX4_letters 25 = .ok (.invokestatic 90, 3) := by decide +kernel
theorem dX4_letters_28 : decode cX4_letters 28 = .ok (.iadd, 1) := by decide +kernel
theorem dX4_letters_29 : decode cX4_letters 29 = .ok (.istore_n 2, 1) := by decide +kernel
theorem dX4_letters_30 : decode cX4_letters 30 = .ok (.iinc 3 1, 3) := by decide +kernel
theorem dX4_letters_33 : decode cX4_letters 33 = .ok (.goto (-29), 3) := by decide +kernel
theorem dX4_letters_36 : decode cX4_letters 36 = .ok (.iload_n 2, 1) := by decide +kernel
theorem dX4_letters_37 : decode cX4_letters 37 = .ok (.ireturn, 1) := by decide +kernel
theorem dX4_flawsOf_0 : decode cX4_flawsOf 0 = .ok (.iconst 0, 1) := by decide +kernel
theorem dX4_flawsOf_1 : decode cX4_flawsOf 1 = .ok (.istore_n 2, 1) := by decide +kernel
theorem dX4_flawsOf_2 : decode cX4_flawsOf 2 = .ok (.iconst 0, 1) := by decide +kernel
theorem dX4_flawsOf_3 : decode cX4_flawsOf 3 = .ok (.istore_n 3, 1) := by decide +kernel
theorem dX4_flawsOf_4 : decode cX4_flawsOf 4 = .ok (.iload_n 3, 1) := by decide +kernel
theorem dX4_flawsOf_5 : decode cX4_flawsOf 5 = .ok (.aload_n 0, 1) := by decide +kernel
theorem dX4_flawsOf_6 : decode cX4_flawsOf 6 = .ok (.getfield 37, 3) := by decide +kernel
theorem dX4_flawsOf_9 : decode cX4_flawsOf 9 = .ok (.iload_n 1, 1) := by decide +kernel
theorem dX4_flawsOf_10 : decode cX4_flawsOf 10 = .ok (.iaload, 1) := by decide +kernel
theorem dX4_flawsOf_11 : decode cX4_flawsOf 11 = .ok (.if_icmp .ge 32, 3) := by decide +kernel
theorem dX4_flawsOf_14 : decode cX4_flawsOf 14 = .ok (.aload_n 0, 1) := by decide +kernel
theorem dX4_flawsOf_15 : decode cX4_flawsOf 15 = .ok (.getfield 40, 3) := by decide +kernel
theorem dX4_flawsOf_18 : decode cX4_flawsOf 18 = .ok (.iload_n 1, 1) := by decide +kernel
theorem dX4_flawsOf_19 : decode cX4_flawsOf 19 = .ok (.iaload, 1) := by decide +kernel
theorem dX4_flawsOf_20 : decode cX4_flawsOf 20 = .ok (.iconst 1, 1) := by decide +kernel
theorem dX4_flawsOf_21 : decode cX4_flawsOf 21 = .ok (.if_icmp .ne 22, 3) := by decide +kernel
theorem dX4_flawsOf_24 : decode cX4_flawsOf 24 = .ok (.iload_n 2, 1) := by decide +kernel
theorem dX4_flawsOf_25 : decode cX4_flawsOf 25 = .ok (.aload_n 0, 1) := by decide +kernel
theorem dX4_flawsOf_26 : decode cX4_flawsOf 26 = .ok (.getfield 52, 3) := by decide +kernel
theorem dX4_flawsOf_29 : decode cX4_flawsOf 29 = .ok (.iconst 4, 1) := by decide +kernel
theorem dX4_flawsOf_30 : decode cX4_flawsOf 30 = .ok (.iload_n 1, 1) := by decide +kernel
theorem dX4_flawsOf_31 : decode cX4_flawsOf 31 = .ok (.imul, 1) := by decide +kernel
theorem dX4_flawsOf_32 : decode cX4_flawsOf 32 = .ok (.iload_n 3, 1) := by decide +kernel
theorem dX4_flawsOf_33 : decode cX4_flawsOf 33 = .ok (.iadd, 1) := by decide +kernel
theorem dX4_flawsOf_34 : decode cX4_flawsOf 34 = .ok (.iaload, 1) := by decide +kernel
theorem dX4_flawsOf_35 : decode cX4_flawsOf 35 = .ok (.iadd, 1) := by decide +kernel
theorem dX4_flawsOf_36 : decode cX4_flawsOf 36 = .ok (.istore_n 2, 1) := by decide +kernel
theorem dX4_flawsOf_37 : decode cX4_flawsOf 37 = .ok (.iinc 3 1, 3) := by decide +kernel
theorem dX4_flawsOf_40 : decode cX4_flawsOf 40 = .ok (.goto (-36), 3) := by decide +kernel
theorem dX4_flawsOf_43 : decode cX4_flawsOf 43 = .ok (.iload_n 2, 1) := by decide +kernel
theorem dX4_flawsOf_44 : decode cX4_flawsOf 44 = .ok (.ireturn, 1) := by decide +kernel
theorem dX4_worth_0 : decode cX4_worth 0 = .ok (.iconst 0, 1) := by decide +kernel
theorem dX4_worth_1 : decode cX4_worth 1 = .ok (.iload_n 2, 1) := by decide +kernel
theorem dX4_worth_2 : decode cX4_worth 2 = .ok (.aload_n 0, 1) := by decide +kernel
theorem dX4_worth_3 : decode cX4_worth 3 = .ok (.getfield 25, 3) := by decide +kernel
theorem dX4_worth_6 : decode cX4_worth 6 = .ok (.aload_n 0, 1) := by decide +kernel
theorem dX4_worth_7 : decode cX4_worth 7 = .ok (.getfield 31, 3) := by decide +kernel
theorem dX4_worth_10 : decode cX4_worth 10 = .ok (.iload_n 1, 1) := by decide +kernel
theorem dX4_worth_11 : decode cX4_worth 11 = .ok (.iaload, 1) := by decide +kernel
theorem dX4_worth_12 : decode cX4_worth 12 = .ok (.iaload, 1) := by decide +kernel
theorem dX4_worth_13 : decode cX4_worth 13 = .ok (.imul, 1) := by decide +kernel
theorem dX4_worth_14 : decode cX4_worth 14 = .ok (.iload_n 3, 1) := by decide +kernel
theorem dX4_worth_15 : decode cX4_worth 15 = .ok (.aload_n 0, 1) := by decide +kernel
theorem dX4_worth_16 : decode cX4_worth 16 = .ok (.getfield 28, 3) := by decide +kernel
theorem dX4_worth_19 : decode cX4_worth 19 = .ok (.aload_n 0, 1) := by decide +kernel
theorem dX4_worth_20 : decode cX4_worth 20 = .ok (.getfield 31, 3) := by decide +kernel
theorem dX4_worth_23 : decode cX4_worth 23 = .ok (.iload_n 1, 1) := by decide +kernel
theorem dX4_worth_24 : decode cX4_worth 24 = .ok (.iaload, 1) := by decide +kernel
theorem dX4_worth_25 : decode cX4_worth 25 = .ok (.iaload, 1) := by decide +kernel
theorem dX4_worth_26 : decode cX4_worth 26 = .ok (.imul, 1) := by decide +kernel
theorem dX4_worth_27 : decode cX4_worth 27 = .ok (.isub, 1) := by decide +kernel
theorem dX4_worth_28 : decode cX4_worth 28 = .ok (.invokestatic 112, 3) := by decide +kernel
theorem dX4_worth_31 : decode cX4_worth 31 = .ok (.ireturn, 1) := by decide +kernel
theorem dX4_proof_0 : decode cX4_proof 0 = .ok (.aload_n 0, 1) := by decide +kernel
theorem dX4_proof_1 : decode cX4_proof 1 = .ok (.getfield 40, 3) := by decide +kernel
theorem dX4_proof_4 : decode cX4_proof 4 = .ok (.iload_n 1, 1) := by decide +kernel
theorem dX4_proof_5 : decode cX4_proof 5 = .ok (.iaload, 1) := by decide +kernel
theorem dX4_proof_6 : decode cX4_proof 6 = .ok (.ifCond .ne 5, 3) := by decide +kernel
theorem dX4_proof_9 : decode cX4_proof 9 = .ok (.iconst 0, 1) := by decide +kernel
theorem dX4_proof_10 : decode cX4_proof 10 = .ok (.ireturn, 1) := by decide +kernel
theorem dX4_proof_11 : decode cX4_proof 11 = .ok (.iconst 0, 1) := by decide +kernel
theorem dX4_proof_12 : decode cX4_proof 12 = .ok (.istore_n 2, 1) := by decide +kernel
theorem dX4_proof_13 : decode cX4_proof 13 = .ok (.iconst 0, 1) := by decide +kernel
theorem dX4_proof_14 : decode cX4_proof 14 = .ok (.istore_n 3, 1) := by decide +kernel
theorem dX4_proof_15 : decode cX4_proof 15 = .ok (.iload_n 3, 1) := by decide +kernel
theorem dX4_proof_16 : decode cX4_proof 16 = .ok (.aload_n 0, 1) := by decide +kernel
theorem dX4_proof_17 : decode cX4_proof 17 = .ok (.getfield 37, 3) := by decide +kernel
theorem dX4_proof_20 : decode cX4_proof 20 = .ok (.iload_n 1, 1) := by decide +kernel
theorem dX4_proof_21 : decode cX4_proof 21 = .ok (.iaload, 1) := by decide +kernel
theorem dX4_proof_22 : decode cX4_proof 22 = .ok (.if_icmp .ge 41, 3) := by decide +kernel
theorem dX4_proof_25 : decode cX4_proof 25 = .ok (.iload_n 2, 1) := by decide +kernel
theorem dX4_proof_26 : decode cX4_proof 26 = .ok (.aload_n 0, 1) := by decide +kernel
theorem dX4_proof_27 : decode cX4_proof 27 = .ok (.getfield 9, 3) := by decide +kernel
theorem dX4_proof_30 : decode cX4_proof 30 = .ok (.aload_n 0, 1) := by decide +kernel
theorem dX4_proof_31 : decode cX4_proof 31 = .ok (.getfield 49, 3) := by decide +kernel
theorem dX4_proof_34 : decode cX4_proof 34 = .ok (.iconst 4, 1) := by decide +kernel
theorem dX4_proof_35 : decode cX4_proof 35 = .ok (.iload_n 1, 1) := by decide +kernel
theorem dX4_proof_36 : decode cX4_proof 36 = .ok (.imul, 1) := by decide +kernel
theorem dX4_proof_37 : decode cX4_proof 37 = .ok (.iload_n 3, 1) := by decide +kernel
theorem dX4_proof_38 : decode cX4_proof 38 = .ok (.iadd, 1) := by decide +kernel
theorem dX4_proof_39 : decode cX4_proof 39 = .ok (.iaload, 1) := by decide +kernel
theorem dX4_proof_40 : decode cX4_proof 40 = .ok (.iaload, 1) := by decide +kernel
theorem dX4_proof_41 : decode cX4_proof 41 = .ok (.aload_n 0, 1) := by decide +kernel
theorem dX4_proof_42 : decode cX4_proof 42 = .ok (.getfield 46, 3) := by decide +kernel
theorem dX4_proof_45 : decode cX4_proof 45 = .ok (.iconst 4, 1) := by decide +kernel
theorem dX4_proof_46 : decode cX4_proof 46 = .ok (.iload_n 1, 1) := by decide +kernel
theorem dX4_proof_47 : decode cX4_proof 47 = .ok (.imul, 1) := by decide +kernel
theorem dX4_proof_48 : decode cX4_proof 48 = .ok (.iload_n 3, 1) := by decide +kernel
theorem dX4_proof_49 : decode cX4_proof 49 = .ok (.iadd, 1) := by decide +kernel
theorem dX4_proof_50 : decode cX4_proof 50 = .ok (.iaload, 1) := by decide +kernel
theorem dX4_proof_51 : decode cX4_proof 51 = .ok (.invokestatic 90, 3) := by decide +kernel
theorem dX4_proof_54 : decode cX4_proof 54 = .ok (.imul, 1) := by decide +kernel
theorem dX4_proof_55 : decode cX4_proof 55 = .ok (.iadd, 1) := by decide +kernel
theorem dX4_proof_56 : decode cX4_proof 56 = .ok (.istore_n 2, 1) := by decide +kernel
theorem dX4_proof_57 : decode cX4_proof 57 = .ok (.iinc 3 1, 3) := by decide +kernel
theorem dX4_proof_60 : decode cX4_proof 60 = .ok (.goto (-45), 3) := by decide +kernel
theorem dX4_proof_63 : decode cX4_proof 63 = .ok (.aload_n 0, 1) := by decide +kernel
theorem dX4_proof_64 : decode cX4_proof 64 = .ok (.iload_n 1, 1) := by decide +kernel
theorem dX4_proof_65 : decode cX4_proof 65 = .ok (.iload_n 2, 1) := by decide +kernel
theorem dX4_proof_66 : decode cX4_proof 66 = .ok (.aload_n 0, 1) := by decide +kernel
theorem dX4_proof_67 : decode cX4_proof 67 = .ok (.iload_n 1, 1) := by decide +kernel
theorem dX4_proof_68 : decode cX4_proof 68 = .ok (.invokevirtual 117, 3) := by decide +kernel
theorem dX4_proof_71 : decode cX4_proof 71 = .ok (.invokevirtual 120, 3) := by decide +kernel
theorem dX4_proof_74 : decode cX4_proof 74 = .ok (.ireturn, 1) := by decide +kernel
theorem dX4_proofTried_0 : decode cX4_proofTried 0 = .ok (.aload_n 0, 1) := by decide +kernel
theorem dX4_proofTried_1 : decode cX4_proofTried 1 = .ok (.iload_n 1, 1) := by decide +kernel
theorem dX4_proofTried_2 : decode cX4_proofTried 2 = .ok (.invokevirtual 124, 3) := by decide +kernel
theorem dX4_proofTried_5 : decode cX4_proofTried 5 = .ok (.istore_n 2, 1) := by decide +kernel
theorem dX4_proofTried_6 : decode cX4_proofTried 6 = .ok (.iload_n 2, 1) := by decide +kernel
theorem dX4_proofTried_7 : decode cX4_proofTried 7 = .ok (.iconst (-1), 1) := by decide +kernel
theorem dX4_proofTried_8 : decode cX4_proofTried 8 = .ok (.if_icmp .ne 5, 3) := by decide +kernel
theorem dX4_proofTried_11 : decode cX4_proofTried 11 = .ok (.iconst (-1), 1) := by decide +kernel
theorem dX4_proofTried_12 : decode cX4_proofTried 12 = .ok (.ireturn, 1) := by decide +kernel
theorem dX4_proofTried_13 : decode cX4_proofTried 13 = .ok (.iconst 0, 1) := by decide +kernel
theorem dX4_proofTried_14 : decode cX4_proofTried 14 = .ok (.istore_n 3, 1) := by decide +kernel
theorem dX4_proofTried_15 : decode cX4_proofTried 15 = .ok (.iconst 0, 1) := by decide +kernel
theorem dX4_proofTried_16 : decode cX4_proofTried 16 = .ok (.istore 4, 2) := by decide +kernel
theorem dX4_proofTried_18 : decode cX4_proofTried 18 = .ok (.iload 4, 2) := by decide +kernel
theorem dX4_proofTried_20 : decode cX4_proofTried 20 = .ok (.aload_n 0, 1) := by decide +kernel
theorem dX4_proofTried_21 : decode cX4_proofTried 21 = .ok (.getfield 37, 3) := by decide +kernel
theorem dX4_proofTried_24 : decode cX4_proofTried 24 = .ok (.iload_n 1, 1) := by decide +kernel
theorem dX4_proofTried_25 : decode cX4_proofTried 25 = .ok (.iaload, 1) := by decide +kernel
theorem dX4_proofTried_26 : decode cX4_proofTried 26 = .ok (.if_icmp .ge 39, 3) := by decide +kernel
theorem dX4_proofTried_29 : decode cX4_proofTried 29 = .ok (.iload_n 3, 1) := by decide +kernel
theorem dX4_proofTried_30 : decode cX4_proofTried 30 = .ok (.aload_n 0, 1) := by decide +kernel
theorem dX4_proofTried_31 : decode cX4_proofTried 31 = .ok (.getfield 9, 3) := by decide +kernel
theorem dX4_proofTried_34 : decode cX4_proofTried 34 = .ok (.aload_n 0, 1) := by decide +kernel
theorem dX4_proofTried_35 : decode cX4_proofTried 35 = .ok (.getfield 61, 3) := by decide +kernel
theorem dX4_proofTried_38 : decode cX4_proofTried 38 = .ok (.iload 4, 2) := by decide +kernel
theorem dX4_proofTried_40 : decode cX4_proofTried 40 = .ok (.iaload, 1) := by decide +kernel
theorem dX4_proofTried_41 : decode cX4_proofTried 41 = .ok (.iaload, 1) := by decide +kernel
theorem dX4_proofTried_42 : decode cX4_proofTried 42 = .ok (.aload_n 0, 1) := by decide +kernel
theorem dX4_proofTried_43 : decode cX4_proofTried 43 = .ok (.getfield 46, 3) := by decide +kernel
theorem dX4_proofTried_46 : decode cX4_proofTried 46 = .ok (.iconst 4, 1) := by decide +kernel
theorem dX4_proofTried_47 : decode cX4_proofTried 47 = .ok (.iload_n 1, 1) := by decide +kernel
theorem dX4_proofTried_48 : decode cX4_proofTried 48 = .ok (.imul, 1) := by decide +kernel
theorem dX4_proofTried_49 : decode cX4_proofTried 49 = .ok (.iload 4, 2) := by decide +kernel
theorem dX4_proofTried_51 : decode cX4_proofTried 51 = .ok (.iadd, 1) := by decide +kernel
theorem dX4_proofTried_52 : decode cX4_proofTried 52 = .ok (.iaload, 1) := by decide +kernel
theorem dX4_proofTried_53 : decode cX4_proofTried 53 = .ok (.invokestatic 90, 3) := by decide +kernel
theorem dX4_proofTried_56 : decode cX4_proofTried 56 = .ok (.imul, 1) := by decide +kernel
theorem dX4_proofTried_57 : decode cX4_proofTried 57 = .ok (.iadd, 1) := by decide +kernel
theorem dX4_proofTried_58 : decode cX4_proofTried 58 = .ok (.istore_n 3, 1) := by decide +kernel
theorem dX4_proofTried_59 : decode cX4_proofTried 59 = .ok (.iinc 4 1, 3) := by decide +kernel
theorem dX4_proofTried_62 : decode cX4_proofTried 62 = .ok (.goto (-44), 3) := by decide +kernel
theorem dX4_proofTried_65 : decode cX4_proofTried 65 = .ok (.aload_n 0, 1) := by decide +kernel
theorem dX4_proofTried_66 : decode cX4_proofTried 66 = .ok (.iload_n 1, 1) := by decide +kernel
theorem dX4_proofTried_67 : decode cX4_proofTried 67 = .ok (.iload_n 3, 1) := by decide +kernel
theorem dX4_proofTried_68 : decode cX4_proofTried 68 = .ok (.iload_n 2, 1) := by decide +kernel
theorem dX4_proofTried_69 : decode cX4_proofTried 69 = .ok (.invokevirtual 120, 3) := by decide +kernel
theorem dX4_proofTried_72 : decode cX4_proofTried 72 = .ok (.ireturn, 1) := by decide +kernel
theorem dX4_outOf_0 : decode cX4_outOf 0 = .ok (.iconst 0, 1) := by decide +kernel
theorem dX4_outOf_1 : decode cX4_outOf 1 = .ok (.istore 4, 2) := by decide +kernel
theorem dX4_outOf_3 : decode cX4_outOf 3 = .ok (.iconst 0, 1) := by decide +kernel
theorem dX4_outOf_4 : decode cX4_outOf 4 = .ok (.istore 5, 2) := by decide +kernel
theorem dX4_outOf_6 : decode cX4_outOf 6 = .ok (.iload 5, 2) := by decide +kernel
theorem dX4_outOf_8 : decode cX4_outOf 8 = .ok (.aload_n 0, 1) := by decide +kernel
theorem dX4_outOf_9 : decode cX4_outOf 9 = .ok (.getfield 37, 3) := by decide +kernel
theorem dX4_outOf_12 : decode cX4_outOf 12 = .ok (.iload_n 1, 1) := by decide +kernel
theorem dX4_outOf_13 : decode cX4_outOf 13 = .ok (.iaload, 1) := by decide +kernel
theorem dX4_outOf_14 : decode cX4_outOf 14 = .ok (.if_icmp .ge 82, 3) := by decide +kernel
theorem dX4_outOf_17 : decode cX4_outOf 17 = .ok (.iconst 4, 1) := by decide +kernel
theorem dX4_outOf_18 : decode cX4_outOf 18 = .ok (.iload_n 1, 1) := by decide +kernel
theorem dX4_outOf_19 : decode cX4_outOf 19 = .ok (.imul, 1) := by decide +kernel
theorem dX4_outOf_20 : decode cX4_outOf 20 = .ok (.iload 5, 2) := by decide +kernel
theorem dX4_outOf_22 : decode cX4_outOf 22 = .ok (.iadd, 1) := by decide +kernel
theorem dX4_outOf_23 : decode cX4_outOf 23 = .ok (.istore 6, 2) := by decide +kernel
theorem dX4_outOf_25 : decode cX4_outOf 25 = .ok (.aload_n 0, 1) := by decide +kernel
theorem dX4_outOf_26 : decode cX4_outOf 26 = .ok (.getfield 49, 3) := by decide +kernel
theorem dX4_outOf_29 : decode cX4_outOf 29 = .ok (.iload 6, 2) := by decide +kernel
theorem dX4_outOf_31 : decode cX4_outOf 31 = .ok (.iaload, 1) := by decide +kernel
theorem dX4_outOf_32 : decode cX4_outOf 32 = .ok (.iload_n 2, 1) := by decide +kernel
theorem dX4_outOf_33 : decode cX4_outOf 33 = .ok (.if_icmp .eq 6, 3) := by decide +kernel
theorem dX4_outOf_36 : decode cX4_outOf 36 = .ok (.goto 54, 3) := by decide +kernel
theorem dX4_outOf_39 : decode cX4_outOf 39 = .ok (.aload_n 0, 1) := by decide +kernel
theorem dX4_outOf_40 : decode cX4_outOf 40 = .ok (.getfield 46, 3) := by decide +kernel
theorem dX4_outOf_43 : decode cX4_outOf 43 = .ok (.iload 6, 2) := by decide +kernel
theorem dX4_outOf_45 : decode cX4_outOf 45 = .ok (.iaload, 1) := by decide +kernel
theorem dX4_outOf_46 : decode cX4_outOf 46 = .ok (.invokestatic 90, 3) := by decide +kernel
theorem dX4_outOf_49 : decode cX4_outOf 49 = .ok (.iconst 1, 1) := by decide +kernel
theorem dX4_outOf_50 : decode cX4_outOf 50 = .ok (.isub, 1) := by decide +kernel
theorem dX4_outOf_51 : decode cX4_outOf 51 = .ok (.istore 7, 2) := by decide +kernel
theorem dX4_outOf_53 : decode cX4_outOf 53 = .ok (.iload 7, 2) := by decide +kernel
theorem dX4_outOf_55 : decode cX4_outOf 55 = .ok (.ifCond .lt 35, 3) := by decide +kernel
theorem dX4_outOf_58 : decode cX4_outOf 58 = .ok (.iload 4, 2) := by decide +kernel
theorem dX4_outOf_60 : decode cX4_outOf 60 = .ok (.aload_n 0, 1) := by decide +kernel
theorem dX4_outOf_61 : decode cX4_outOf 61 = .ok (.getfield 55, 3) := by decide +kernel
theorem dX4_outOf_64 : decode cX4_outOf 64 = .ok (.iload 6, 2) := by decide +kernel
theorem dX4_outOf_66 : decode cX4_outOf 66 = .ok (.iaload, 1) := by decide +kernel
theorem dX4_outOf_67 : decode cX4_outOf 67 = .ok (.iload 7, 2) := by decide +kernel
theorem dX4_outOf_69 : decode cX4_outOf 69 = .ok (.invokestatic 94, 3) := by decide +kernel
theorem dX4_outOf_72 : decode cX4_outOf 72 = .ok (.iload_n 3, 1) := by decide +kernel
theorem dX4_outOf_73 : decode cX4_outOf 73 = .ok (.if_icmp .ne 7, 3) := by decide +kernel
theorem dX4_outOf_76 : decode cX4_outOf 76 = .ok (.iconst 1, 1) := by decide +kernel
theorem dX4_outOf_77 : decode cX4_outOf 77 = .ok (.goto 4, 3) := by decide +kernel
theorem dX4_outOf_80 : decode cX4_outOf 80 = .ok (.iconst 0, 1) := by decide +kernel
theorem dX4_outOf_81 : decode cX4_outOf 81 = .ok (.iadd, 1) := by decide +kernel
theorem dX4_outOf_82 : decode cX4_outOf 82 = .ok (.istore 4, 2) := by decide +kernel
theorem dX4_outOf_84 : decode cX4_outOf 84 = .ok (.iinc 7 (-1), 3) := by decide +kernel
theorem dX4_outOf_87 : decode cX4_outOf 87 = .ok (.goto (-34), 3) := by decide +kernel
theorem dX4_outOf_90 : decode cX4_outOf 90 = .ok (.iinc 5 1, 3) := by decide +kernel
theorem dX4_outOf_93 : decode cX4_outOf 93 = .ok (.goto (-87), 3) := by decide +kernel
theorem dX4_outOf_96 : decode cX4_outOf 96 = .ok (.iload 4, 2) := by decide +kernel
theorem dX4_outOf_98 : decode cX4_outOf 98 = .ok (.ireturn, 1) := by decide +kernel
theorem dX4_fount_0 : decode cX4_fount 0 = .ok (.aload_n 0, 1) := by decide +kernel
theorem dX4_fount_1 : decode cX4_fount 1 = .ok (.iconst 0, 1) := by decide +kernel
theorem dX4_fount_2 : decode cX4_fount 2 = .ok (.putfield 73, 3) := by decide +kernel
theorem dX4_fount_5 : decode cX4_fount 5 = .ok (.iload_n 1, 1) := by decide +kernel
theorem dX4_fount_6 : decode cX4_fount 6 = .ok (.iconst 1, 1) := by decide +kernel
theorem dX4_fount_7 : decode cX4_fount 7 = .ok (.bipush 20, 2) := by decide +kernel
theorem dX4_fount_9 : decode cX4_fount 9 = .ok (.invokestatic 80, 3) := by decide +kernel
theorem dX4_fount_12 : decode cX4_fount 12 = .ok (.ifCond .ne 9, 3) := by decide +kernel
theorem dX4_fount_15 : decode cX4_fount 15 = .ok (.aload_n 0, 1) := by decide +kernel
theorem dX4_fount_16 : decode cX4_fount 16 = .ok (.iconst 1, 1) := by decide +kernel
theorem dX4_fount_17 : decode cX4_fount 17 = .ok (.invokevirtual 127, 3) := by decide +kernel
theorem dX4_fount_20 : decode cX4_fount 20 = .ok (.ireturn, 1) := by decide +kernel
theorem dX4_fount_21 : decode cX4_fount 21 = .ok (.aload_n 0, 1) := by decide +kernel
theorem dX4_fount_22 : decode cX4_fount 22 = .ok (.getfield 77, 3) := by decide +kernel
theorem dX4_fount_25 : decode cX4_fount 25 = .ok (.iconst 5, 1) := by decide +kernel
theorem dX4_fount_26 : decode cX4_fount 26 = .ok (.if_icmp .ne 9, 3) := by decide +kernel
theorem dX4_fount_29 : decode cX4_fount 29 = .ok (.aload_n 0, 1) := by decide +kernel
theorem dX4_fount_30 : decode cX4_fount 30 = .ok (.iconst 2, 1) := by decide +kernel
theorem dX4_fount_31 : decode cX4_fount 31 = .ok (.invokevirtual 127, 3) := by decide +kernel
theorem dX4_fount_34 : decode cX4_fount 34 = .ok (.ireturn, 1) := by decide +kernel
theorem dX4_fount_35 : decode cX4_fount 35 = .ok (.aload_n 0, 1) := by decide +kernel
theorem dX4_fount_36 : decode cX4_fount 36 = .ok (.getfield 9, 3) := by decide +kernel
theorem dX4_fount_39 : decode cX4_fount 39 = .ok (.aload_n 0, 1) := by decide +kernel
theorem dX4_fount_40 : decode cX4_fount 40 = .ok (.getfield 77, 3) := by decide +kernel
theorem dX4_fount_43 : decode cX4_fount 43 = .ok (.iload_n 1, 1) := by decide +kernel
theorem dX4_fount_44 : decode cX4_fount 44 = .ok (.iastore, 1) := by decide +kernel
theorem dX4_fount_45 : decode cX4_fount 45 = .ok (.aload_n 0, 1) := by decide +kernel
theorem dX4_fount_46 : decode cX4_fount 46 = .ok (.dup, 1) := by decide +kernel
theorem dX4_fount_47 : decode cX4_fount 47 = .ok (.getfield 77, 3) := by decide +kernel
theorem dX4_fount_50 : decode cX4_fount 50 = .ok (.iconst 1, 1) := by decide +kernel
theorem dX4_fount_51 : decode cX4_fount 51 = .ok (.iadd, 1) := by decide +kernel
theorem dX4_fount_52 : decode cX4_fount 52 = .ok (.putfield 77, 3) := by decide +kernel
theorem dX4_fount_55 : decode cX4_fount 55 = .ok (.aload_n 0, 1) := by decide +kernel
theorem dX4_fount_56 : decode cX4_fount 56 = .ok (.getfield 77, 3) := by decide +kernel
theorem dX4_fount_59 : decode cX4_fount 59 = .ok (.iconst 1, 1) := by decide +kernel
theorem dX4_fount_60 : decode cX4_fount 60 = .ok (.isub, 1) := by decide +kernel
theorem dX4_fount_61 : decode cX4_fount 61 = .ok (.ireturn, 1) := by decide +kernel
theorem dX4_buy_0 : decode cX4_buy 0 = .ok (.aload_n 0, 1) := by decide +kernel
theorem dX4_buy_1 : decode cX4_buy 1 = .ok (.iconst 0, 1) := by decide +kernel
theorem dX4_buy_2 : decode cX4_buy 2 = .ok (.putfield 73, 3) := by decide +kernel
theorem dX4_buy_5 : decode cX4_buy 5 = .ok (.aload_n 0, 1) := by decide +kernel
theorem dX4_buy_6 : decode cX4_buy 6 = .ok (.iload_n 1, 1) := by decide +kernel
theorem dX4_buy_7 : decode cX4_buy 7 = .ok (.invokevirtual 130, 3) := by decide +kernel
theorem dX4_buy_10 : decode cX4_buy 10 = .ok (.ifCond .eq 10, 3) := by decide +kernel
theorem dX4_buy_13 : decode cX4_buy 13 = .ok (.iload_n 2, 1) := by decide +kernel
theorem dX4_buy_14 : decode cX4_buy 14 = .ok (.invokestatic 134, 3) := by decide +kernel
theorem dX4_buy_17 : decode cX4_buy 17 = .ok (.ifCond .ne 9, 3) := by decide +kernel
theorem dX4_buy_20 : decode cX4_buy 20 = .ok (.aload_n 0, 1) := by decide +kernel
theorem dX4_buy_21 : decode cX4_buy 21 = .ok (.iconst 1, 1) := by decide +kernel
theorem dX4_buy_22 : decode cX4_buy 22 = .ok (.invokevirtual 127, 3) := by decide +kernel
theorem dX4_buy_25 : decode cX4_buy 25 = .ok (.ireturn, 1) := by decide +kernel
theorem dX4_buy_26 : decode cX4_buy 26 = .ok (.iload_n 3, 1) := by decide +kernel
theorem dX4_buy_27 : decode cX4_buy 27 = .ok (.iconst 1, 1) := by decide +kernel
theorem dX4_buy_28 : decode cX4_buy 28 = .ok (.bipush 9, 2) := by decide +kernel
theorem dX4_buy_30 : decode cX4_buy 30 = .ok (.invokestatic 80, 3) := by decide +kernel
theorem dX4_buy_33 : decode cX4_buy 33 = .ok (.ifCond .ne 9, 3) := by decide +kernel
theorem dX4_buy_36 : decode cX4_buy 36 = .ok (.aload_n 0, 1) := by decide +kernel
theorem dX4_buy_37 : decode cX4_buy 37 = .ok (.iconst 2, 1) := by decide +kernel
theorem dX4_buy_38 : decode cX4_buy 38 = .ok (.invokevirtual 127, 3) := by decide +kernel
theorem dX4_buy_41 : decode cX4_buy 41 = .ok (.ireturn, 1) := by decide +kernel
theorem dX4_buy_42 : decode cX4_buy 42 = .ok (.bipush 10, 2) := by decide +kernel
theorem dX4_buy_44 : decode cX4_buy 44 = .ok (.iload_n 1, 1) := by decide +kernel
theorem dX4_buy_45 : decode cX4_buy 45 = .ok (.imul, 1) := by decide +kernel
theorem dX4_buy_46 : decode cX4_buy 46 = .ok (.iload_n 2, 1) := by decide +kernel
theorem dX4_buy_47 : decode cX4_buy 47 = .ok (.iadd, 1) := by decide +kernel
theorem dX4_buy_48 : decode cX4_buy 48 = .ok (.istore 4, 2) := by decide +kernel
theorem dX4_buy_50 : decode cX4_buy 50 = .ok (.aload_n 0, 1) := by decide +kernel
theorem dX4_buy_51 : decode cX4_buy 51 = .ok (.getfield 13, 3) := by decide +kernel
theorem dX4_buy_54 : decode cX4_buy 54 = .ok (.iload 4, 2) := by decide +kernel
theorem dX4_buy_56 : decode cX4_buy 56 = .ok (.iaload, 1) := by decide +kernel
theorem dX4_buy_57 : decode cX4_buy 57 = .ok (.iload_n 3, 1) := by decide +kernel
theorem dX4_buy_58 : decode cX4_buy 58 = .ok (.iadd, 1) := by decide +kernel
theorem dX4_buy_59 : decode cX4_buy 59 = .ok (.bipush 9, 2) := by decide +kernel
theorem dX4_buy_61 : decode cX4_buy 61 = .ok (.if_icmp .le 9, 3) := by decide +kernel
theorem dX4_buy_64 : decode cX4_buy 64 = .ok (.aload_n 0, 1) := by decide +kernel
theorem dX4_buy_65 : decode cX4_buy 65 = .ok (.iconst 3, 1) := by decide +kernel
theorem dX4_buy_66 : decode cX4_buy 66 = .ok (.invokevirtual 127, 3) := by decide +kernel
theorem dX4_buy_69 : decode cX4_buy 69 = .ok (.ireturn, 1) := by decide +kernel
theorem dX4_buy_70 : decode cX4_buy 70 = .ok (.aload_n 0, 1) := by decide +kernel
theorem dX4_buy_71 : decode cX4_buy 71 = .ok (.getfield 13, 3) := by decide +kernel
theorem dX4_buy_74 : decode cX4_buy 74 = .ok (.iload 4, 2) := by decide +kernel
theorem dX4_buy_76 : decode cX4_buy 76 = .ok (.dup2, 1) := by decide +kernel
theorem dX4_buy_77 : decode cX4_buy 77 = .ok (.iaload, 1) := by decide +kernel
theorem dX4_buy_78 : decode cX4_buy 78 = .ok (.iload_n 3, 1) := by decide +kernel
theorem dX4_buy_79 : decode cX4_buy 79 = .ok (.iadd, 1) := by decide +kernel
theorem dX4_buy_80 : decode cX4_buy 80 = .ok (.iastore, 1) := by decide +kernel
theorem dX4_buy_81 : decode cX4_buy 81 = .ok (.aload_n 0, 1) := by decide +kernel
theorem dX4_buy_82 : decode cX4_buy 82 = .ok (.getfield 13, 3) := by decide +kernel
theorem dX4_buy_85 : decode cX4_buy 85 = .ok (.iload 4, 2) := by decide +kernel
theorem dX4_buy_87 : decode cX4_buy 87 = .ok (.iaload, 1) := by decide +kernel
theorem dX4_buy_88 : decode cX4_buy 88 = .ok (.ireturn, 1) := by decide +kernel
theorem dX4_buyAll_0 : decode cX4_buyAll 0 = .ok (.aload_n 0, 1) := by decide +kernel
theorem dX4_buyAll_1 : decode cX4_buyAll 1 = .ok (.iconst 0, 1) := by decide +kernel
theorem dX4_buyAll_2 : decode cX4_buyAll 2 = .ok (.putfield 73, 3) := by decide +kernel
theorem dX4_buyAll_5 : decode cX4_buyAll 5 = .ok (.aload_n 0, 1) := by decide +kernel
theorem dX4_buyAll_6 : decode cX4_buyAll 6 = .ok (.iload_n 1, 1) := by decide +kernel
theorem dX4_buyAll_7 : decode cX4_buyAll 7 = .ok (.invokevirtual 130, 3) := by decide +kernel
theorem dX4_buyAll_10 : decode cX4_buyAll 10 = .ok (.ifCond .ne 9, 3) := by decide +kernel
theorem dX4_buyAll_13 : decode cX4_buyAll 13 = .ok (.aload_n 0, 1) := by decide +kernel
theorem dX4_buyAll_14 : decode cX4_buyAll 14 = .ok (.iconst 1, 1) := by decide +kernel
theorem dX4_buyAll_15 : decode cX4_buyAll 15 = .ok (.invokevirtual 127, 3) := by decide +kernel
theorem dX4_buyAll_18 : decode cX4_buyAll 18 = .ok (.ireturn, 1) := by decide +kernel
theorem dX4_buyAll_19 : decode cX4_buyAll 19 = .ok (.iload_n 2, 1) := by decide +kernel
theorem dX4_buyAll_20 : decode cX4_buyAll 20 = .ok (.iconst 1, 1) := by decide +kernel
theorem dX4_buyAll_21 : decode cX4_buyAll 21 = .ok (.bipush 9, 2) := by decide +kernel
theorem dX4_buyAll_23 : decode cX4_buyAll 23 = .ok (.invokestatic 80, 3) := by decide +kernel
theorem dX4_buyAll_26 : decode cX4_buyAll 26 = .ok (.ifCond .ne 9, 3) := by decide +kernel
theorem dX4_buyAll_29 : decode cX4_buyAll 29 = .ok (.aload_n 0, 1) := by decide +kernel
theorem dX4_buyAll_30 : decode cX4_buyAll 30 = .ok (.iconst 2, 1) := by decide +kernel
theorem dX4_buyAll_31 : decode cX4_buyAll 31 = .ok (.invokevirtual 127, 3) := by decide +kernel
theorem dX4_buyAll_34 : decode cX4_buyAll 34 = .ok (.ireturn, 1) := by decide +kernel
theorem dX4_buyAll_35 : decode cX4_buyAll 35 = .ok (.iconst 0, 1) := by decide +kernel
theorem dX4_buyAll_36 : decode cX4_buyAll 36 = .ok (.istore_n 3, 1) := by decide +kernel
theorem dX4_buyAll_37 : decode cX4_buyAll 37 = .ok (.bipush 10, 2) := by decide +kernel
theorem dX4_buyAll_39 : decode cX4_buyAll 39 = .ok (.iload_n 1, 1) := by decide +kernel
theorem dX4_buyAll_40 : decode cX4_buyAll 40 = .ok (.imul, 1) := by decide +kernel
theorem dX4_buyAll_41 : decode cX4_buyAll 41 = .ok (.istore 4, 2) := by decide +kernel
theorem dX4_buyAll_43 : decode cX4_buyAll 43 = .ok (.iload 4, 2) := by decide +kernel
theorem dX4_buyAll_45 : decode cX4_buyAll 45 = .ok (.bipush 10, 2) := by decide +kernel
theorem dX4_buyAll_47 : decode cX4_buyAll 47 = .ok (.iload_n 1, 1) := by decide +kernel
theorem dX4_buyAll_48 : decode cX4_buyAll 48 = .ok (.iconst 1, 1) := by decide +kernel
theorem dX4_buyAll_49 : decode cX4_buyAll 49 = .ok (.iadd, 1) := by decide +kernel
theorem dX4_buyAll_50 : decode cX4_buyAll 50 = .ok (.imul, 1) := by decide +kernel
theorem dX4_buyAll_51 : decode cX4_buyAll 51 = .ok (.if_icmp .ge 42, 3) := by decide +kernel
theorem dX4_buyAll_54 : decode cX4_buyAll 54 = .ok (.iload_n 2, 1) := by decide +kernel
theorem dX4_buyAll_55 : decode cX4_buyAll 55 = .ok (.bipush 9, 2) := by decide +kernel
theorem dX4_buyAll_57 : decode cX4_buyAll 57 = .ok (.aload_n 0, 1) := by decide +kernel
theorem dX4_buyAll_58 : decode cX4_buyAll 58 = .ok (.getfield 13, 3) := by decide +kernel
theorem dX4_buyAll_61 : decode cX4_buyAll 61 = .ok (.iload 4, 2) := by decide +kernel
theorem dX4_buyAll_63 : decode cX4_buyAll 63 = .ok (.iaload, 1) := by decide +kernel
theorem dX4_buyAll_64 : decode cX4_buyAll 64 = .ok (.isub, 1) := by decide +kernel
theorem dX4_buyAll_65 : decode cX4_buyAll 65 = .ok (.invokestatic 137, 3) := by decide +kernel
theorem dX4_buyAll_68 : decode cX4_buyAll 68 = .ok (.istore 5, 2) := by decide +kernel
theorem dX4_buyAll_70 : decode cX4_buyAll 70 = .ok (.aload_n 0, 1) := by decide +kernel
theorem dX4_buyAll_71 : decode cX4_buyAll 71 = .ok (.getfield 13, 3) := by decide +kernel
theorem dX4_buyAll_74 : decode cX4_buyAll 74 = .ok (.iload 4, 2) := by decide +kernel
theorem dX4_buyAll_76 : decode cX4_buyAll 76 = .ok (.dup2, 1) := by decide +kernel
theorem dX4_buyAll_77 : decode cX4_buyAll 77 = .ok (.iaload, 1) := by decide +kernel
theorem dX4_buyAll_78 : decode cX4_buyAll 78 = .ok (.iload 5, 2) := by decide +kernel
theorem dX4_buyAll_80 : decode cX4_buyAll 80 = .ok (.iadd, 1) := by decide +kernel
theorem dX4_buyAll_81 : decode cX4_buyAll 81 = .ok (.iastore, 1) := by decide +kernel
theorem dX4_buyAll_82 : decode cX4_buyAll 82 = .ok (.iload_n 3, 1) := by decide +kernel
theorem dX4_buyAll_83 : decode cX4_buyAll 83 = .ok (.iload 5, 2) := by decide +kernel
theorem dX4_buyAll_85 : decode cX4_buyAll 85 = .ok (.iadd, 1) := by decide +kernel
theorem dX4_buyAll_86 : decode cX4_buyAll 86 = .ok (.istore_n 3, 1) := by decide +kernel
theorem dX4_buyAll_87 : decode cX4_buyAll 87 = .ok (.iinc 4 1, 3) := by decide +kernel
theorem dX4_buyAll_90 : decode cX4_buyAll 90 = .ok (.goto (-47), 3) := by decide +kernel
theorem dX4_buyAll_93 : decode cX4_buyAll 93 = .ok (.iload_n 3, 1) := by decide +kernel
theorem dX4_buyAll_94 : decode cX4_buyAll 94 = .ok (.ireturn, 1) := by decide +kernel
theorem dX4_setOther_0 : decode cX4_setOther 0 = .ok (.aload_n 0, 1) := by decide +kernel
theorem dX4_setOther_1 : decode cX4_setOther 1 = .ok (.iconst 0, 1) := by decide +kernel
theorem dX4_setOther_2 : decode cX4_setOther 2 = .ok (.putfield 73, 3) := by decide +kernel
theorem dX4_setOther_5 : decode cX4_setOther 5 = .ok (.iload_n 1, 1) := by decide +kernel
theorem dX4_setOther_6 : decode cX4_setOther 6 = .ok (.invokestatic 134, 3) := by decide +kernel
theorem dX4_setOther_9 : decode cX4_setOther 9 = .ok (.ifCond .eq 15, 3) := by decide +kernel
theorem dX4_setOther_12 : decode cX4_setOther 12 = .ok (.iload_n 2, 1) := by decide +kernel
theorem dX4_setOther_13 : decode cX4_setOther 13 = .ok (.iconst (-1), 1) := by decide +kernel
theorem dX4_setOther_14 : decode cX4_setOther 14 = .ok (.if_icmp .eq 16, 3) := by decide +kernel
theorem dX4_setOther_17 : decode cX4_setOther 17 = .ok (.iload_n 2, 1) := by decide +kernel
theorem dX4_setOther_18 : decode cX4_setOther 18 = .ok (.invokestatic 134, 3) := by decide +kernel
theorem dX4_setOther_21 : decode cX4_setOther 21 = .ok (.ifCond .ne 9, 3) := by decide +kernel
theorem dX4_setOther_24 : decode cX4_setOther 24 = .ok (.aload_n 0, 1) := by decide +kernel
theorem dX4_setOther_25 : decode cX4_setOther 25 = .ok (.iconst 1, 1) := by decide +kernel
theorem dX4_setOther_26 : decode cX4_setOther 26 = .ok (.invokevirtual 127, 3) := by decide +kernel
theorem dX4_setOther_29 : decode cX4_setOther 29 = .ok (.ireturn, 1) := by decide +kernel
theorem dX4_setOther_30 : decode cX4_setOther 30 = .ok (.iload_n 1, 1) := by decide +kernel
theorem dX4_setOther_31 : decode cX4_setOther 31 = .ok (.iload_n 2, 1) := by decide +kernel
theorem dX4_setOther_32 : decode cX4_setOther 32 = .ok (.if_icmp .ne 9, 3) := by decide +kernel
theorem dX4_setOther_35 : decode cX4_setOther 35 = .ok (.aload_n 0, 1) := by decide +kernel
theorem dX4_setOther_36 : decode cX4_setOther 36 = .ok (.iconst 2, 1) := by decide +kernel
theorem dX4_setOther_37 : decode cX4_setOther 37 = .ok (.invokevirtual 127, 3) := by decide +kernel
theorem dX4_setOther_40 : decode cX4_setOther 40 = .ok (.ireturn, 1) := by decide +kernel
theorem dX4_setOther_41 : decode cX4_setOther 41 = .ok (.aload_n 0, 1) := by decide +kernel
theorem dX4_setOther_42 : decode cX4_setOther 42 = .ok (.getfield 22, 3) := by decide +kernel
theorem dX4_setOther_45 : decode cX4_setOther 45 = .ok (.iload_n 1, 1) := by decide +kernel
theorem dX4_setOther_46 : decode cX4_setOther 46 = .ok (.iaload, 1) := by decide +kernel
theorem dX4_setOther_47 : decode cX4_setOther 47 = .ok (.istore_n 3, 1) := by decide +kernel
theorem dX4_setOther_48 : decode cX4_setOther 48 = .ok (.aload_n 0, 1) := by decide +kernel
theorem dX4_setOther_49 : decode cX4_setOther 49 = .ok (.getfield 22, 3) := by decide +kernel
theorem dX4_setOther_52 : decode cX4_setOther 52 = .ok (.iload_n 1, 1) := by decide +kernel
theorem dX4_setOther_53 : decode cX4_setOther 53 = .ok (.iload_n 2, 1) := by decide +kernel
theorem dX4_setOther_54 : decode cX4_setOther 54 = .ok (.iastore, 1) := by decide +kernel
theorem dX4_setOther_55 : decode cX4_setOther 55 = .ok (.iload_n 3, 1) := by decide +kernel
theorem dX4_setOther_56 : decode cX4_setOther 56 = .ok (.ireturn, 1) := by decide +kernel
theorem dX4_setTown_0 : decode cX4_setTown 0 = .ok (.aload_n 0, 1) := by decide +kernel
theorem dX4_setTown_1 : decode cX4_setTown 1 = .ok (.iconst 0, 1) := by decide +kernel
theorem dX4_setTown_2 : decode cX4_setTown 2 = .ok (.putfield 73, 3) := by decide +kernel
theorem dX4_setTown_5 : decode cX4_setTown 5 = .ok (.iload_n 1, 1) := by decide +kernel
theorem dX4_setTown_6 : decode cX4_setTown 6 = .ok (.invokestatic 140, 3) := by decide +kernel
theorem dX4_setTown_9 : decode cX4_setTown 9 = .ok (.ifCond .ne 9, 3) := by decide +kernel
theorem dX4_setTown_12 : decode cX4_setTown 12 = .ok (.aload_n 0, 1) := by decide +kernel
theorem dX4_setTown_13 : decode cX4_setTown 13 = .ok (.iconst 1, 1) := by decide +kernel
theorem dX4_setTown_14 : decode cX4_setTown 14 = .ok (.invokevirtual 127, 3) := by decide +kernel
theorem dX4_setTown_17 : decode cX4_setTown 17 = .ok (.ireturn, 1) := by decide +kernel
theorem dX4_setTown_18 : decode cX4_setTown 18 = .ok (.iload_n 2, 1) := by decide +kernel
theorem dX4_setTown_19 : decode cX4_setTown 19 = .ok (.iconst 0, 1) := by decide +kernel
theorem dX4_setTown_20 : decode cX4_setTown 20 = .ok (.bipush 9, 2) := by decide +kernel
theorem dX4_setTown_22 : decode cX4_setTown 22 = .ok (.invokestatic 80, 3) := by decide +kernel
theorem dX4_setTown_25 : decode cX4_setTown 25 = .ok (.ifCond .eq 13, 3) := by decide +kernel
theorem dX4_setTown_28 : decode cX4_setTown 28 = .ok (.iload_n 3, 1) := by decide +kernel
theorem dX4_setTown_29 : decode cX4_setTown 29 = .ok (.iconst 0, 1) := by decide +kernel
theorem dX4_setTown_30 : decode cX4_setTown 30 = .ok (.bipush 30, 2) := by decide +kernel
theorem dX4_setTown_32 : decode cX4_setTown 32 = .ok (.invokestatic 80, 3) := by decide +kernel
theorem dX4_setTown_35 : decode cX4_setTown 35 = .ok (.ifCond .ne 9, 3) := by decide +kernel
theorem dX4_setTown_38 : decode cX4_setTown 38 = .ok (.aload_n 0, 1) := by decide +kernel
theorem dX4_setTown_39 : decode cX4_setTown 39 = .ok (.iconst 2, 1) := by decide +kernel
theorem dX4_setTown_40 : decode cX4_setTown 40 = .ok (.invokevirtual 127, 3) := by decide +kernel
theorem dX4_setTown_43 : decode cX4_setTown 43 = .ok (.ireturn, 1) := by decide +kernel
theorem dX4_setTown_44 : decode cX4_setTown 44 = .ok (.bipush 100, 2) := by decide +kernel
theorem dX4_setTown_46 : decode cX4_setTown 46 = .ok (.aload_n 0, 1) := by decide +kernel
theorem dX4_setTown_47 : decode cX4_setTown 47 = .ok (.getfield 25, 3) := by decide +kernel
theorem dX4_setTown_50 : decode cX4_setTown 50 = .ok (.iload_n 1, 1) := by decide +kernel
theorem dX4_setTown_51 : decode cX4_setTown 51 = .ok (.iaload, 1) := by decide +kernel
theorem dX4_setTown_52 : decode cX4_setTown 52 = .ok (.imul, 1) := by decide +kernel
theorem dX4_setTown_53 : decode cX4_setTown 53 = .ok (.aload_n 0, 1) := by decide +kernel
theorem dX4_setTown_54 : decode cX4_setTown 54 = .ok (.getfield 28, 3) := by decide +kernel
theorem dX4_setTown_57 : decode cX4_setTown 57 = .ok (.iload_n 1, 1) := by decide +kernel
theorem dX4_setTown_58 : decode cX4_setTown 58 = .ok (.iaload, 1) := by decide +kernel
theorem dX4_setTown_59 : decode cX4_setTown 59 = .ok (.iadd, 1) := by decide +kernel
theorem dX4_setTown_60 : decode cX4_setTown 60 = .ok (.istore 4, 2) := by decide +kernel
theorem dX4_setTown_62 : decode cX4_setTown 62 = .ok (.aload_n 0, 1) := by decide +kernel
theorem dX4_setTown_63 : decode cX4_setTown 63 = .ok (.getfield 25, 3) := by decide +kernel
theorem dX4_setTown_66 : decode cX4_setTown 66 = .ok (.iload_n 1, 1) := by decide +kernel
theorem dX4_setTown_67 : decode cX4_setTown 67 = .ok (.iload_n 2, 1) := by decide +kernel
theorem dX4_setTown_68 : decode cX4_setTown 68 = .ok (.iastore, 1) := by decide +kernel
theorem dX4_setTown_69 : decode cX4_setTown 69 = .ok (.aload_n 0, 1) := by decide +kernel
theorem dX4_setTown_70 : decode cX4_setTown 70 = .ok (.getfield 28, 3) := by decide +kernel
theorem dX4_setTown_73 : decode cX4_setTown 73 = .ok (.iload_n 1, 1) := by decide +kernel
theorem dX4_setTown_74 : decode cX4_setTown 74 = .ok (.iload_n 3, 1) := by decide +kernel
theorem dX4_setTown_75 : decode cX4_setTown 75 = .ok (.iastore, 1) := by decide +kernel
theorem dX4_setTown_76 : decode cX4_setTown 76 = .ok (.iload 4, 2) := by decide +kernel
theorem dX4_setTown_78 : decode cX4_setTown 78 = .ok (.ireturn, 1) := by decide +kernel
theorem dX4_poster_0 : decode cX4_poster 0 = .ok (.aload_n 0, 1) := by decide +kernel
theorem dX4_poster_1 : decode cX4_poster 1 = .ok (.iconst 0, 1) := by decide +kernel
theorem dX4_poster_2 : decode cX4_poster 2 = .ok (.putfield 73, 3) := by decide +kernel
theorem dX4_poster_5 : decode cX4_poster 5 = .ok (.iload_n 1, 1) := by decide +kernel
theorem dX4_poster_6 : decode cX4_poster 6 = .ok (.invokestatic 140, 3) := by decide +kernel
theorem dX4_poster_9 : decode cX4_poster 9 = .ok (.ifCond .ne 9, 3) := by decide +kernel
theorem dX4_poster_12 : decode cX4_poster 12 = .ok (.aload_n 0, 1) := by decide +kernel
theorem dX4_poster_13 : decode cX4_poster 13 = .ok (.iconst 1, 1) := by decide +kernel
theorem dX4_poster_14 : decode cX4_poster 14 = .ok (.invokevirtual 127, 3) := by decide +kernel
theorem dX4_poster_17 : decode cX4_poster 17 = .ok (.ireturn, 1) := by decide +kernel
theorem dX4_poster_18 : decode cX4_poster 18 = .ok (.iload_n 2, 1) := by decide +kernel
theorem dX4_poster_19 : decode cX4_poster 19 = .ok (.iconst 1, 1) := by decide +kernel
theorem dX4_poster_20 : decode cX4_poster 20 = .ok (.bipush 20, 2) := by decide +kernel
theorem dX4_poster_22 : decode cX4_poster 22 = .ok (.invokestatic 80, 3) := by decide +kernel
theorem dX4_poster_25 : decode cX4_poster 25 = .ok (.ifCond .ne 9, 3) := by decide +kernel
theorem dX4_poster_28 : decode cX4_poster 28 = .ok (.aload_n 0, 1) := by decide +kernel
theorem dX4_poster_29 : decode cX4_poster 29 = .ok (.iconst 2, 1) := by decide +kernel
theorem dX4_poster_30 : decode cX4_poster 30 = .ok (.invokevirtual 127, 3) := by decide +kernel
theorem dX4_poster_33 : decode cX4_poster 33 = .ok (.ireturn, 1) := by decide +kernel
theorem dX4_poster_34 : decode cX4_poster 34 = .ok (.aload_n 0, 1) := by decide +kernel
theorem dX4_poster_35 : decode cX4_poster 35 = .ok (.getfield 84, 3) := by decide +kernel
theorem dX4_poster_38 : decode cX4_poster 38 = .ok (.bipush 6, 2) := by decide +kernel
theorem dX4_poster_40 : decode cX4_poster 40 = .ok (.if_icmp .ne 9, 3) := by decide +kernel
theorem dX4_poster_43 : decode cX4_poster 43 = .ok (.aload_n 0, 1) := by decide +kernel
theorem dX4_poster_44 : decode cX4_poster 44 = .ok (.iconst 3, 1) := by decide +kernel
theorem dX4_poster_45 : decode cX4_poster 45 = .ok (.invokevirtual 127, 3) := by decide +kernel
theorem dX4_poster_48 : decode cX4_poster 48 = .ok (.ireturn, 1) := by decide +kernel
theorem dX4_poster_49 : decode cX4_poster 49 = .ok (.aload_n 0, 1) := by decide +kernel
theorem dX4_poster_50 : decode cX4_poster 50 = .ok (.getfield 31, 3) := by decide +kernel
theorem dX4_poster_53 : decode cX4_poster 53 = .ok (.aload_n 0, 1) := by decide +kernel
theorem dX4_poster_54 : decode cX4_poster 54 = .ok (.getfield 84, 3) := by decide +kernel
theorem dX4_poster_57 : decode cX4_poster 57 = .ok (.iload_n 1, 1) := by decide +kernel
theorem dX4_poster_58 : decode cX4_poster 58 = .ok (.iastore, 1) := by decide +kernel
theorem dX4_poster_59 : decode cX4_poster 59 = .ok (.aload_n 0, 1) := by decide +kernel
theorem dX4_poster_60 : decode cX4_poster 60 = .ok (.getfield 34, 3) := by decide +kernel
theorem dX4_poster_63 : decode cX4_poster 63 = .ok (.aload_n 0, 1) := by decide +kernel
theorem dX4_poster_64 : decode cX4_poster 64 = .ok (.getfield 84, 3) := by decide +kernel
theorem dX4_poster_67 : decode cX4_poster 67 = .ok (.iload_n 2, 1) := by decide +kernel
theorem dX4_poster_68 : decode cX4_poster 68 = .ok (.iastore, 1) := by decide +kernel
theorem dX4_poster_69 : decode cX4_poster 69 = .ok (.aload_n 0, 1) := by decide +kernel
theorem dX4_poster_70 : decode cX4_poster 70 = .ok (.dup, 1) := by decide +kernel
theorem dX4_poster_71 : decode cX4_poster 71 = .ok (.getfield 84, 3) := by decide +kernel
theorem dX4_poster_74 : decode cX4_poster 74 = .ok (.iconst 1, 1) := by decide +kernel
theorem dX4_poster_75 : decode cX4_poster 75 = .ok (.iadd, 1) := by decide +kernel
theorem dX4_poster_76 : decode cX4_poster 76 = .ok (.putfield 84, 3) := by decide +kernel
theorem dX4_poster_79 : decode cX4_poster 79 = .ok (.aload_n 0, 1) := by decide +kernel
theorem dX4_poster_80 : decode cX4_poster 80 = .ok (.getfield 84, 3) := by decide +kernel
theorem dX4_poster_83 : decode cX4_poster 83 = .ok (.iconst 1, 1) := by decide +kernel
theorem dX4_poster_84 : decode cX4_poster 84 = .ok (.isub, 1) := by decide +kernel
theorem dX4_poster_85 : decode cX4_poster 85 = .ok (.ireturn, 1) := by decide +kernel
theorem dX4_line_0 : decode cX4_line 0 = .ok (.aload_n 0, 1) := by decide +kernel
theorem dX4_line_1 : decode cX4_line 1 = .ok (.iconst 0, 1) := by decide +kernel
theorem dX4_line_2 : decode cX4_line 2 = .ok (.putfield 73, 3) := by decide +kernel
theorem dX4_line_5 : decode cX4_line 5 = .ok (.aload_n 0, 1) := by decide +kernel
theorem dX4_line_6 : decode cX4_line 6 = .ok (.iload_n 1, 1) := by decide +kernel
theorem dX4_line_7 : decode cX4_line 7 = .ok (.invokevirtual 143, 3) := by decide +kernel
theorem dX4_line_10 : decode cX4_line 10 = .ok (.ifCond .ne 9, 3) := by decide +kernel
theorem dX4_line_13 : decode cX4_line 13 = .ok (.aload_n 0, 1) := by decide +kernel
theorem dX4_line_14 : decode cX4_line 14 = .ok (.iconst 1, 1) := by decide +kernel
theorem dX4_line_15 : decode cX4_line 15 = .ok (.invokevirtual 127, 3) := by decide +kernel
theorem dX4_line_18 : decode cX4_line 18 = .ok (.ireturn, 1) := by decide +kernel
theorem dX4_line_19 : decode cX4_line 19 = .ok (.iload_n 2, 1) := by decide +kernel
theorem dX4_line_20 : decode cX4_line 20 = .ok (.iconst 0, 1) := by decide +kernel
theorem dX4_line_21 : decode cX4_line 21 = .ok (.ldc 146, 2) := by decide +kernel
theorem dX4_line_23 : decode cX4_line 23 = .ok (.invokestatic 80, 3) := by decide +kernel
theorem dX4_line_26 : decode cX4_line 26 = .ok (.ifCond .ne 9, 3) := by decide +kernel
theorem dX4_line_29 : decode cX4_line 29 = .ok (.aload_n 0, 1) := by decide +kernel
theorem dX4_line_30 : decode cX4_line 30 = .ok (.iconst 2, 1) := by decide +kernel
theorem dX4_line_31 : decode cX4_line 31 = .ok (.invokevirtual 127, 3) := by decide +kernel
theorem dX4_line_34 : decode cX4_line 34 = .ok (.ireturn, 1) := by decide +kernel
theorem dX4_line_35 : decode cX4_line 35 = .ok (.aload_n 0, 1) := by decide +kernel
theorem dX4_line_36 : decode cX4_line 36 = .ok (.getfield 40, 3) := by decide +kernel
theorem dX4_line_39 : decode cX4_line 39 = .ok (.iload_n 1, 1) := by decide +kernel
theorem dX4_line_40 : decode cX4_line 40 = .ok (.iaload, 1) := by decide +kernel
theorem dX4_line_41 : decode cX4_line 41 = .ok (.iconst 1, 1) := by decide +kernel
theorem dX4_line_42 : decode cX4_line 42 = .ok (.if_icmp .eq 13, 3) := by decide +kernel
theorem dX4_line_45 : decode cX4_line 45 = .ok (.aload_n 0, 1) := by decide +kernel
theorem dX4_line_46 : decode cX4_line 46 = .ok (.getfield 37, 3) := by decide +kernel
theorem dX4_line_49 : decode cX4_line 49 = .ok (.iload_n 1, 1) := by decide +kernel
theorem dX4_line_50 : decode cX4_line 50 = .ok (.iaload, 1) := by decide +kernel
theorem dX4_line_51 : decode cX4_line 51 = .ok (.iconst 4, 1) := by decide +kernel
theorem dX4_line_52 : decode cX4_line 52 = .ok (.if_icmp .ne 9, 3) := by decide +kernel
theorem dX4_line_55 : decode cX4_line 55 = .ok (.aload_n 0, 1) := by decide +kernel
theorem dX4_line_56 : decode cX4_line 56 = .ok (.iconst 3, 1) := by decide +kernel
theorem dX4_line_57 : decode cX4_line 57 = .ok (.invokevirtual 127, 3) := by decide +kernel
theorem dX4_line_60 : decode cX4_line 60 = .ok (.ireturn, 1) := by decide +kernel
theorem dX4_line_61 : decode cX4_line 61 = .ok (.aload_n 0, 1) := by decide +kernel
theorem dX4_line_62 : decode cX4_line 62 = .ok (.getfield 46, 3) := by decide +kernel
theorem dX4_line_65 : decode cX4_line 65 = .ok (.iconst 4, 1) := by decide +kernel
theorem dX4_line_66 : decode cX4_line 66 = .ok (.iload_n 1, 1) := by decide +kernel
theorem dX4_line_67 : decode cX4_line 67 = .ok (.imul, 1) := by decide +kernel
theorem dX4_line_68 : decode cX4_line 68 = .ok (.aload_n 0, 1) := by decide +kernel
theorem dX4_line_69 : decode cX4_line 69 = .ok (.getfield 37, 3) := by decide +kernel
theorem dX4_line_72 : decode cX4_line 72 = .ok (.iload_n 1, 1) := by decide +kernel
theorem dX4_line_73 : decode cX4_line 73 = .ok (.iaload, 1) := by decide +kernel
theorem dX4_line_74 : decode cX4_line 74 = .ok (.iadd, 1) := by decide +kernel
theorem dX4_line_75 : decode cX4_line 75 = .ok (.iload_n 2, 1) := by decide +kernel
theorem dX4_line_76 : decode cX4_line 76 = .ok (.iastore, 1) := by decide +kernel
theorem dX4_line_77 : decode cX4_line 77 = .ok (.aload_n 0, 1) := by decide +kernel
theorem dX4_line_78 : decode cX4_line 78 = .ok (.getfield 37, 3) := by decide +kernel
theorem dX4_line_81 : decode cX4_line 81 = .ok (.iload_n 1, 1) := by decide +kernel
theorem dX4_line_82 : decode cX4_line 82 = .ok (.dup2, 1) := by decide +kernel
theorem dX4_line_83 : decode cX4_line 83 = .ok (.iaload, 1) := by decide +kernel
theorem dX4_line_84 : decode cX4_line 84 = .ok (.iconst 1, 1) := by decide +kernel
theorem dX4_line_85 : decode cX4_line 85 = .ok (.iadd, 1) := by decide +kernel
theorem dX4_line_86 : decode cX4_line 86 = .ok (.iastore, 1) := by decide +kernel
theorem dX4_line_87 : decode cX4_line 87 = .ok (.aload_n 0, 1) := by decide +kernel
theorem dX4_line_88 : decode cX4_line 88 = .ok (.getfield 37, 3) := by decide +kernel
theorem dX4_line_91 : decode cX4_line 91 = .ok (.iload_n 1, 1) := by decide +kernel
theorem dX4_line_92 : decode cX4_line 92 = .ok (.iaload, 1) := by decide +kernel
theorem dX4_line_93 : decode cX4_line 93 = .ok (.iconst 1, 1) := by decide +kernel
theorem dX4_line_94 : decode cX4_line 94 = .ok (.isub, 1) := by decide +kernel
theorem dX4_line_95 : decode cX4_line 95 = .ok (.ireturn, 1) := by decide +kernel
theorem dX4_set_0 : decode cX4_set 0 = .ok (.aload_n 0, 1) := by decide +kernel
theorem dX4_set_1 : decode cX4_set 1 = .ok (.iconst 0, 1) := by decide +kernel
theorem dX4_set_2 : decode cX4_set 2 = .ok (.putfield 73, 3) := by decide +kernel
theorem dX4_set_5 : decode cX4_set 5 = .ok (.aload_n 0, 1) := by decide +kernel
theorem dX4_set_6 : decode cX4_set 6 = .ok (.iload_n 1, 1) := by decide +kernel
theorem dX4_set_7 : decode cX4_set 7 = .ok (.invokevirtual 143, 3) := by decide +kernel
theorem dX4_set_10 : decode cX4_set 10 = .ok (.ifCond .ne 9, 3) := by decide +kernel
theorem dX4_set_13 : decode cX4_set 13 = .ok (.aload_n 0, 1) := by decide +kernel
theorem dX4_set_14 : decode cX4_set 14 = .ok (.iconst 1, 1) := by decide +kernel
theorem dX4_set_15 : decode cX4_set 15 = .ok (.invokevirtual 127, 3) := by decide +kernel
theorem dX4_set_18 : decode cX4_set 18 = .ok (.ireturn, 1) := by decide +kernel
theorem dX4_set_19 : decode cX4_set 19 = .ok (.aload_n 0, 1) := by decide +kernel
theorem dX4_set_20 : decode cX4_set 20 = .ok (.iload_n 1, 1) := by decide +kernel
theorem dX4_set_21 : decode cX4_set 21 = .ok (.invokevirtual 124, 3) := by decide +kernel
theorem dX4_set_24 : decode cX4_set 24 = .ok (.istore_n 2, 1) := by decide +kernel
theorem dX4_set_25 : decode cX4_set 25 = .ok (.iload_n 2, 1) := by decide +kernel
theorem dX4_set_26 : decode cX4_set 26 = .ok (.iconst (-1), 1) := by decide +kernel
theorem dX4_set_27 : decode cX4_set 27 = .ok (.if_icmp .ne 9, 3) := by decide +kernel
theorem dX4_set_30 : decode cX4_set 30 = .ok (.aload_n 0, 1) := by decide +kernel
theorem dX4_set_31 : decode cX4_set 31 = .ok (.iconst 2, 1) := by decide +kernel
theorem dX4_set_32 : decode cX4_set 32 = .ok (.invokevirtual 127, 3) := by decide +kernel
theorem dX4_set_35 : decode cX4_set 35 = .ok (.ireturn, 1) := by decide +kernel
theorem dX4_set_36 : decode cX4_set 36 = .ok (.aload_n 0, 1) := by decide +kernel
theorem dX4_set_37 : decode cX4_set 37 = .ok (.getfield 61, 3) := by decide +kernel
theorem dX4_set_40 : decode cX4_set 40 = .ok (.iconst 0, 1) := by decide +kernel
theorem dX4_set_41 : decode cX4_set 41 = .ok (.aload_n 0, 1) := by decide +kernel
theorem dX4_set_42 : decode cX4_set 42 = .ok (.getfield 49, 3) := by decide +kernel
theorem dX4_set_45 : decode cX4_set 45 = .ok (.iconst 4, 1) := by decide +kernel
theorem dX4_set_46 : decode cX4_set 46 = .ok (.iload_n 1, 1) := by decide +kernel
theorem dX4_set_47 : decode cX4_set 47 = .ok (.imul, 1) := by decide +kernel
theorem dX4_set_48 : decode cX4_set 48 = .ok (.iconst 4, 1) := by decide +kernel
theorem dX4_set_49 : decode cX4_set 49 = .ok (.invokestatic 147, 3) := by decide +kernel
theorem dX4_set_52 : decode cX4_set 52 = .ok (.aload_n 0, 1) := by decide +kernel
theorem dX4_set_53 : decode cX4_set 53 = .ok (.getfield 64, 3) := by decide +kernel
theorem dX4_set_56 : decode cX4_set 56 = .ok (.iconst 0, 1) := by decide +kernel
theorem dX4_set_57 : decode cX4_set 57 = .ok (.aload_n 0, 1) := by decide +kernel
theorem dX4_set_58 : decode cX4_set 58 = .ok (.getfield 52, 3) := by decide +kernel
theorem dX4_set_61 : decode cX4_set 61 = .ok (.iconst 4, 1) := by decide +kernel
theorem dX4_set_62 : decode cX4_set 62 = .ok (.iload_n 1, 1) := by decide +kernel
theorem dX4_set_63 : decode cX4_set 63 = .ok (.imul, 1) := by decide +kernel
theorem dX4_set_64 : decode cX4_set 64 = .ok (.iconst 4, 1) := by decide +kernel
theorem dX4_set_65 : decode cX4_set 65 = .ok (.invokestatic 147, 3) := by decide +kernel
theorem dX4_set_68 : decode cX4_set 68 = .ok (.aload_n 0, 1) := by decide +kernel
theorem dX4_set_69 : decode cX4_set 69 = .ok (.getfield 67, 3) := by decide +kernel
theorem dX4_set_72 : decode cX4_set 72 = .ok (.iconst 0, 1) := by decide +kernel
theorem dX4_set_73 : decode cX4_set 73 = .ok (.aload_n 0, 1) := by decide +kernel
theorem dX4_set_74 : decode cX4_set 74 = .ok (.getfield 55, 3) := by decide +kernel
theorem dX4_set_77 : decode cX4_set 77 = .ok (.iconst 4, 1) := by decide +kernel
theorem dX4_set_78 : decode cX4_set 78 = .ok (.iload_n 1, 1) := by decide +kernel
theorem dX4_set_79 : decode cX4_set 79 = .ok (.imul, 1) := by decide +kernel
theorem dX4_set_80 : decode cX4_set 80 = .ok (.iconst 4, 1) := by decide +kernel
theorem dX4_set_81 : decode cX4_set 81 = .ok (.invokestatic 147, 3) := by decide +kernel
theorem dX4_set_84 : decode cX4_set 84 = .ok (.iconst 0, 1) := by decide +kernel
theorem dX4_set_85 : decode cX4_set 85 = .ok (.istore_n 3, 1) := by decide +kernel
theorem dX4_set_86 : decode cX4_set 86 = .ok (.iload_n 3, 1) := by decide +kernel
theorem dX4_set_87 : decode cX4_set 87 = .ok (.bipush 50, 2) := by decide +kernel
theorem dX4_set_89 : decode cX4_set 89 = .ok (.if_icmp .ge 24, 3) := by decide +kernel
theorem dX4_set_92 : decode cX4_set 92 = .ok (.aload_n 0, 1) := by decide +kernel
theorem dX4_set_93 : decode cX4_set 93 = .ok (.getfield 16, 3) := by decide +kernel
theorem dX4_set_96 : decode cX4_set 96 = .ok (.iload_n 3, 1) := by decide +kernel
theorem dX4_set_97 : decode cX4_set 97 = .ok (.dup2, 1) := by decide +kernel
theorem dX4_set_98 : decode cX4_set 98 = .ok (.iaload, 1) := by decide +kernel
theorem dX4_set_99 : decode cX4_set 99 = .ok (.aload_n 0, 1) := by decide +kernel
theorem dX4_set_100 : decode cX4_set 100 = .ok (.getfield 58, 3) := by decide +kernel
theorem dX4_set_103 : decode cX4_set 103 = .ok (.iload_n 3, 1) := by decide +kernel
theorem dX4_set_104 : decode cX4_set 104 = .ok (.iaload, 1) := by decide +kernel
theorem dX4_set_105 : decode cX4_set 105 = .ok (.iadd, 1) := by decide +kernel
theorem dX4_set_106 : decode cX4_set 106 = .ok (.iastore, 1) := by decide +kernel
theorem dX4_set_107 : decode cX4_set 107 = .ok (.iinc 3 1, 3) := by decide +kernel
theorem dX4_set_110 : decode cX4_set 110 = .ok (.goto (-24), 3) := by decide +kernel
theorem dX4_set_113 : decode cX4_set 113 = .ok (.aload_n 0, 1) := by decide +kernel
theorem dX4_set_114 : decode cX4_set 114 = .ok (.getfield 40, 3) := by decide +kernel
theorem dX4_set_117 : decode cX4_set 117 = .ok (.iload_n 1, 1) := by decide +kernel
theorem dX4_set_118 : decode cX4_set 118 = .ok (.iconst 1, 1) := by decide +kernel
theorem dX4_set_119 : decode cX4_set 119 = .ok (.iastore, 1) := by decide +kernel
theorem dX4_set_120 : decode cX4_set 120 = .ok (.iload_n 2, 1) := by decide +kernel
theorem dX4_set_121 : decode cX4_set 121 = .ok (.ireturn, 1) := by decide +kernel
theorem dX4_print_0 : decode cX4_print 0 = .ok (.aload_n 0, 1) := by decide +kernel
theorem dX4_print_1 : decode cX4_print 1 = .ok (.iconst 0, 1) := by decide +kernel
theorem dX4_print_2 : decode cX4_print 2 = .ok (.putfield 73, 3) := by decide +kernel
theorem dX4_print_5 : decode cX4_print 5 = .ok (.aload_n 0, 1) := by decide +kernel
theorem dX4_print_6 : decode cX4_print 6 = .ok (.iload_n 1, 1) := by decide +kernel
theorem dX4_print_7 : decode cX4_print 7 = .ok (.invokevirtual 143, 3) := by decide +kernel
theorem dX4_print_10 : decode cX4_print 10 = .ok (.ifCond .ne 9, 3) := by decide +kernel
theorem dX4_print_13 : decode cX4_print 13 = .ok (.aload_n 0, 1) := by decide +kernel
theorem dX4_print_14 : decode cX4_print 14 = .ok (.iconst 1, 1) := by decide +kernel
theorem dX4_print_15 : decode cX4_print 15 = .ok (.invokevirtual 127, 3) := by decide +kernel
theorem dX4_print_18 : decode cX4_print 18 = .ok (.ireturn, 1) := by decide +kernel
theorem dX4_print_19 : decode cX4_print 19 = .ok (.iload_n 2, 1) := by decide +kernel
theorem dX4_print_20 : decode cX4_print 20 = .ok (.iconst 1, 1) := by decide +kernel
theorem dX4_print_21 : decode cX4_print 21 = .ok (.sipush 500, 3) := by decide +kernel
theorem dX4_print_24 : decode cX4_print 24 = .ok (.invokestatic 80, 3) := by decide +kernel
theorem dX4_print_27 : decode cX4_print 27 = .ok (.ifCond .ne 9, 3) := by decide +kernel
theorem dX4_print_30 : decode cX4_print 30 = .ok (.aload_n 0, 1) := by decide +kernel
theorem dX4_print_31 : decode cX4_print 31 = .ok (.iconst 2, 1) := by decide +kernel
theorem dX4_print_32 : decode cX4_print 32 = .ok (.invokevirtual 127, 3) := by decide +kernel
theorem dX4_print_35 : decode cX4_print 35 = .ok (.ireturn, 1) := by decide +kernel
theorem dX4_print_36 : decode cX4_print 36 = .ok (.aload_n 0, 1) := by decide +kernel
theorem dX4_print_37 : decode cX4_print 37 = .ok (.getfield 40, 3) := by decide +kernel
theorem dX4_print_40 : decode cX4_print 40 = .ok (.iload_n 1, 1) := by decide +kernel
theorem dX4_print_41 : decode cX4_print 41 = .ok (.iaload, 1) := by decide +kernel
theorem dX4_print_42 : decode cX4_print 42 = .ok (.ifCond .ne 9, 3) := by decide +kernel
theorem dX4_print_45 : decode cX4_print 45 = .ok (.aload_n 0, 1) := by decide +kernel
theorem dX4_print_46 : decode cX4_print 46 = .ok (.iconst 3, 1) := by decide +kernel
theorem dX4_print_47 : decode cX4_print 47 = .ok (.invokevirtual 127, 3) := by decide +kernel
theorem dX4_print_50 : decode cX4_print 50 = .ok (.ireturn, 1) := by decide +kernel
theorem dX4_print_51 : decode cX4_print 51 = .ok (.iconst 0, 1) := by decide +kernel
theorem dX4_print_52 : decode cX4_print 52 = .ok (.istore_n 3, 1) := by decide +kernel
theorem dX4_print_53 : decode cX4_print 53 = .ok (.iload_n 3, 1) := by decide +kernel
theorem dX4_print_54 : decode cX4_print 54 = .ok (.bipush 50, 2) := by decide +kernel
theorem dX4_print_56 : decode cX4_print 56 = .ok (.if_icmp .ge 33, 3) := by decide +kernel
theorem dX4_print_59 : decode cX4_print 59 = .ok (.aload_n 0, 1) := by decide +kernel
theorem dX4_print_60 : decode cX4_print 60 = .ok (.getfield 19, 3) := by decide +kernel
theorem dX4_print_63 : decode cX4_print 63 = .ok (.iload_n 3, 1) := by decide +kernel
theorem dX4_print_64 : decode cX4_print 64 = .ok (.dup2, 1) := by decide +kernel
theorem dX4_print_65 : decode cX4_print 65 = .ok (.iaload, 1) := by decide +kernel
theorem dX4_print_66 : decode cX4_print 66 = .ok (.iload_n 2, 1) := by decide +kernel
theorem dX4_print_67 : decode cX4_print 67 = .ok (.aload_n 0, 1) := by decide +kernel
theorem dX4_print_68 : decode cX4_print 68 = .ok (.iload_n 1, 1) := by decide +kernel
theorem dX4_print_69 : decode cX4_print 69 = .ok (.iload_n 3, 1) := by decide +kernel
theorem dX4_print_70 : decode cX4_print 70 = .ok (.bipush 10, 2) := by decide +kernel
theorem dX4_print_72 : decode cX4_print 72 = .ok (.idiv, 1) := by decide +kernel
theorem dX4_print_73 : decode cX4_print 73 = .ok (.iload_n 3, 1) := by decide +kernel
theorem dX4_print_74 : decode cX4_print 74 = .ok (.bipush 10, 2) := by decide +kernel
theorem dX4_print_76 : decode cX4_print 76 = .ok (.irem, 1) := by decide +kernel
theorem dX4_print_77 : decode cX4_print 77 = .ok (.invokevirtual 153, 3) := by decide +kernel
theorem dX4_print_80 : decode cX4_print 80 = .ok (.imul, 1) := by decide +kernel
theorem dX4_print_81 : decode cX4_print 81 = .ok (.iadd, 1) := by decide +kernel
theorem dX4_print_82 : decode cX4_print 82 = .ok (.iastore, 1) := by decide +kernel
theorem dX4_print_83 : decode cX4_print 83 = .ok (.iinc 3 1, 3) := by decide +kernel
theorem dX4_print_86 : decode cX4_print 86 = .ok (.goto (-33), 3) := by decide +kernel
theorem dX4_print_89 : decode cX4_print 89 = .ok (.aload_n 0, 1) := by decide +kernel
theorem dX4_print_90 : decode cX4_print 90 = .ok (.iload_n 1, 1) := by decide +kernel
theorem dX4_print_91 : decode cX4_print 91 = .ok (.invokevirtual 156, 3) := by decide +kernel
theorem dX4_print_94 : decode cX4_print 94 = .ok (.iload_n 2, 1) := by decide +kernel
theorem dX4_print_95 : decode cX4_print 95 = .ok (.imul, 1) := by decide +kernel
theorem dX4_print_96 : decode cX4_print 96 = .ok (.bipush 100, 2) := by decide +kernel
theorem dX4_print_98 : decode cX4_print 98 = .ok (.idiv, 1) := by decide +kernel
theorem dX4_print_99 : decode cX4_print 99 = .ok (.istore_n 3, 1) := by decide +kernel
theorem dX4_print_100 : decode cX4_print 100 = .ok (.aload_n 0, 1) := by decide +kernel
theorem dX4_print_101 : decode cX4_print 101 = .ok (.dup, 1) := by decide +kernel
theorem dX4_print_102 : decode cX4_print 102 = .ok (.getfield 159, 3) := by decide +kernel
theorem dX4_print_105 : decode cX4_print 105 = .ok (.iload_n 3, 1) := by decide +kernel
theorem dX4_print_106 : decode cX4_print 106 = .ok (.iadd, 1) := by decide +kernel
theorem dX4_print_107 : decode cX4_print 107 = .ok (.putfield 159, 3) := by decide +kernel
theorem dX4_print_110 : decode cX4_print 110 = .ok (.aload_n 0, 1) := by decide +kernel
theorem dX4_print_111 : decode cX4_print 111 = .ok (.getfield 43, 3) := by decide +kernel
theorem dX4_print_114 : decode cX4_print 114 = .ok (.iload_n 1, 1) := by decide +kernel
theorem dX4_print_115 : decode cX4_print 115 = .ok (.dup2, 1) := by decide +kernel
theorem dX4_print_116 : decode cX4_print 116 = .ok (.iaload, 1) := by decide +kernel
theorem dX4_print_117 : decode cX4_print 117 = .ok (.iload_n 2, 1) := by decide +kernel
theorem dX4_print_118 : decode cX4_print 118 = .ok (.iadd, 1) := by decide +kernel
theorem dX4_print_119 : decode cX4_print 119 = .ok (.iastore, 1) := by decide +kernel
theorem dX4_print_120 : decode cX4_print 120 = .ok (.iload_n 3, 1) := by decide +kernel
theorem dX4_print_121 : decode cX4_print 121 = .ok (.ireturn, 1) := by decide +kernel
theorem dX4_strike_0 : decode cX4_strike 0 = .ok (.aload_n 0, 1) := by decide +kernel
theorem dX4_strike_1 : decode cX4_strike 1 = .ok (.iconst 0, 1) := by decide +kernel
theorem dX4_strike_2 : decode cX4_strike 2 = .ok (.putfield 73, 3) := by decide +kernel
theorem dX4_strike_5 : decode cX4_strike 5 = .ok (.aload_n 0, 1) := by decide +kernel
theorem dX4_strike_6 : decode cX4_strike 6 = .ok (.iload_n 1, 1) := by decide +kernel
theorem dX4_strike_7 : decode cX4_strike 7 = .ok (.invokevirtual 143, 3) := by decide +kernel
theorem dX4_strike_10 : decode cX4_strike 10 = .ok (.ifCond .ne 9, 3) := by decide +kernel
theorem dX4_strike_13 : decode cX4_strike 13 = .ok (.aload_n 0, 1) := by decide +kernel
theorem dX4_strike_14 : decode cX4_strike 14 = .ok (.iconst 1, 1) := by decide +kernel
theorem dX4_strike_15 : decode cX4_strike 15 = .ok (.invokevirtual 127, 3) := by decide +kernel
theorem dX4_strike_18 : decode cX4_strike 18 = .ok (.ireturn, 1) := by decide +kernel
theorem dX4_strike_19 : decode cX4_strike 19 = .ok (.aload_n 0, 1) := by decide +kernel
theorem dX4_strike_20 : decode cX4_strike 20 = .ok (.getfield 40, 3) := by decide +kernel
theorem dX4_strike_23 : decode cX4_strike 23 = .ok (.iload_n 1, 1) := by decide +kernel
theorem dX4_strike_24 : decode cX4_strike 24 = .ok (.iaload, 1) := by decide +kernel
theorem dX4_strike_25 : decode cX4_strike 25 = .ok (.ifCond .ne 9, 3) := by decide +kernel
theorem dX4_strike_28 : decode cX4_strike 28 = .ok (.aload_n 0, 1) := by decide +kernel
theorem dX4_strike_29 : decode cX4_strike 29 = .ok (.iconst 2, 1) := by decide +kernel
theorem dX4_strike_30 : decode cX4_strike 30 = .ok (.invokevirtual 127, 3) := by decide +kernel
theorem dX4_strike_33 : decode cX4_strike 33 = .ok (.ireturn, 1) := by decide +kernel
theorem dX4_strike_34 : decode cX4_strike 34 = .ok (.iconst 0, 1) := by decide +kernel
theorem dX4_strike_35 : decode cX4_strike 35 = .ok (.istore_n 2, 1) := by decide +kernel
theorem dX4_strike_36 : decode cX4_strike 36 = .ok (.iload_n 2, 1) := by decide +kernel
theorem dX4_strike_37 : decode cX4_strike 37 = .ok (.bipush 50, 2) := by decide +kernel
theorem dX4_strike_39 : decode cX4_strike 39 = .ok (.if_icmp .ge 31, 3) := by decide +kernel
theorem dX4_strike_42 : decode cX4_strike 42 = .ok (.aload_n 0, 1) := by decide +kernel
theorem dX4_strike_43 : decode cX4_strike 43 = .ok (.getfield 16, 3) := by decide +kernel
theorem dX4_strike_46 : decode cX4_strike 46 = .ok (.iload_n 2, 1) := by decide +kernel
theorem dX4_strike_47 : decode cX4_strike 47 = .ok (.dup2, 1) := by decide +kernel
theorem dX4_strike_48 : decode cX4_strike 48 = .ok (.iaload, 1) := by decide +kernel
theorem dX4_strike_49 : decode cX4_strike 49 = .ok (.aload_n 0, 1) := by decide +kernel
theorem dX4_strike_50 : decode cX4_strike 50 = .ok (.iload_n 1, 1) := by decide +kernel
theorem dX4_strike_51 : decode cX4_strike 51 = .ok (.iload_n 2, 1) := by decide +kernel
theorem dX4_strike_52 : decode cX4_strike 52 = .ok (.bipush 10, 2) := by decide +kernel
theorem dX4_strike_54 : decode cX4_strike 54 = .ok (.idiv, 1) := by decide +kernel
theorem dX4_strike_55 : decode cX4_strike 55 = .ok (.iload_n 2, 1) := by decide +kernel
theorem dX4_strike_56 : decode cX4_strike 56 = .ok (.bipush 10, 2) := by decide +kernel
theorem dX4_strike_58 : decode cX4_strike 58 = .ok (.irem, 1) := by decide +kernel
theorem dX4_strike_59 : decode cX4_strike 59 = .ok (.invokevirtual 153, 3) := by decide +kernel
theorem dX4_strike_62 : decode cX4_strike 62 = .ok (.isub, 1) := by decide +kernel
theorem dX4_strike_63 : decode cX4_strike 63 = .ok (.iastore, 1) := by decide +kernel
theorem dX4_strike_64 : decode cX4_strike 64 = .ok (.iinc 2 1, 3) := by decide +kernel
theorem dX4_strike_67 : decode cX4_strike 67 = .ok (.goto (-31), 3) := by decide +kernel
theorem dX4_strike_70 : decode cX4_strike 70 = .ok (.aload_n 0, 1) := by decide +kernel
theorem dX4_strike_71 : decode cX4_strike 71 = .ok (.getfield 40, 3) := by decide +kernel
theorem dX4_strike_74 : decode cX4_strike 74 = .ok (.iload_n 1, 1) := by decide +kernel
theorem dX4_strike_75 : decode cX4_strike 75 = .ok (.iconst 0, 1) := by decide +kernel
theorem dX4_strike_76 : decode cX4_strike 76 = .ok (.iastore, 1) := by decide +kernel
theorem dX4_strike_77 : decode cX4_strike 77 = .ok (.iconst 0, 1) := by decide +kernel
theorem dX4_strike_78 : decode cX4_strike 78 = .ok (.istore_n 2, 1) := by decide +kernel
theorem dX4_strike_79 : decode cX4_strike 79 = .ok (.iconst 0, 1) := by decide +kernel
theorem dX4_strike_80 : decode cX4_strike 80 = .ok (.istore_n 3, 1) := by decide +kernel
theorem dX4_strike_81 : decode cX4_strike 81 = .ok (.iload_n 3, 1) := by decide +kernel
theorem dX4_strike_82 : decode cX4_strike 82 = .ok (.bipush 50, 2) := by decide +kernel
theorem dX4_strike_84 : decode cX4_strike 84 = .ok (.if_icmp .ge 68, 3) := by decide +kernel
theorem dX4_strike_87 : decode cX4_strike 87 = .ok (.aload_n 0, 1) := by decide +kernel
theorem dX4_strike_88 : decode cX4_strike 88 = .ok (.getfield 19, 3) := by decide +kernel
theorem dX4_strike_91 : decode cX4_strike 91 = .ok (.iload_n 3, 1) := by decide +kernel
theorem dX4_strike_92 : decode cX4_strike 92 = .ok (.iaload, 1) := by decide +kernel
theorem dX4_strike_93 : decode cX4_strike 93 = .ok (.sipush 400, 3) := by decide +kernel
theorem dX4_strike_96 : decode cX4_strike 96 = .ok (.idiv, 1) := by decide +kernel
theorem dX4_strike_97 : decode cX4_strike 97 = .ok (.aload_n 0, 1) := by decide +kernel
theorem dX4_strike_98 : decode cX4_strike 98 = .ok (.getfield 13, 3) := by decide +kernel
theorem dX4_strike_101 : decode cX4_strike 101 = .ok (.iload_n 3, 1) := by decide +kernel
theorem dX4_strike_102 : decode cX4_strike 102 = .ok (.iaload, 1) := by decide +kernel
theorem dX4_strike_103 : decode cX4_strike 103 = .ok (.aload_n 0, 1) := by decide +kernel
theorem dX4_strike_104 : decode cX4_strike 104 = .ok (.getfield 16, 3) := by decide +kernel
theorem dX4_strike_107 : decode cX4_strike 107 = .ok (.iload_n 3, 1) := by decide +kernel
theorem dX4_strike_108 : decode cX4_strike 108 = .ok (.iaload, 1) := by decide +kernel
theorem dX4_strike_109 : decode cX4_strike 109 = .ok (.isub, 1) := by decide +kernel
theorem dX4_strike_110 : decode cX4_strike 110 = .ok (.invokestatic 137, 3) := by decide +kernel
theorem dX4_strike_113 : decode cX4_strike 113 = .ok (.istore 4, 2) := by decide +kernel
theorem dX4_strike_115 : decode cX4_strike 115 = .ok (.aload_n 0, 1) := by decide +kernel
theorem dX4_strike_116 : decode cX4_strike 116 = .ok (.getfield 13, 3) := by decide +kernel
theorem dX4_strike_119 : decode cX4_strike 119 = .ok (.iload_n 3, 1) := by decide +kernel
theorem dX4_strike_120 : decode cX4_strike 120 = .ok (.dup2, 1) := by decide +kernel
theorem dX4_strike_121 : decode cX4_strike 121 = .ok (.iaload, 1) := by decide +kernel
theorem dX4_strike_122 : decode cX4_strike 122 = .ok (.iload 4, 2) := by decide +kernel
theorem dX4_strike_124 : decode cX4_strike 124 = .ok (.isub, 1) := by decide +kernel
theorem dX4_strike_125 : decode cX4_strike 125 = .ok (.iastore, 1) := by decide +kernel
theorem dX4_strike_126 : decode cX4_strike 126 = .ok (.aload_n 0, 1) := by decide +kernel
theorem dX4_strike_127 : decode cX4_strike 127 = .ok (.getfield 19, 3) := by decide +kernel
theorem dX4_strike_130 : decode cX4_strike 130 = .ok (.iload_n 3, 1) := by decide +kernel
theorem dX4_strike_131 : decode cX4_strike 131 = .ok (.dup2, 1) := by decide +kernel
theorem dX4_strike_132 : decode cX4_strike 132 = .ok (.iaload, 1) := by decide +kernel
theorem dX4_strike_133 : decode cX4_strike 133 = .ok (.sipush 400, 3) := by decide +kernel
theorem dX4_strike_136 : decode cX4_strike 136 = .ok (.iload 4, 2) := by decide +kernel
theorem dX4_strike_138 : decode cX4_strike 138 = .ok (.imul, 1) := by decide +kernel
theorem dX4_strike_139 : decode cX4_strike 139 = .ok (.isub, 1) := by decide +kernel
theorem dX4_strike_140 : decode cX4_strike 140 = .ok (.iastore, 1) := by decide +kernel
theorem dX4_strike_141 : decode cX4_strike 141 = .ok (.iload_n 2, 1) := by decide +kernel
theorem dX4_strike_142 : decode cX4_strike 142 = .ok (.iload 4, 2) := by decide +kernel
theorem dX4_strike_144 : decode cX4_strike 144 = .ok (.iadd, 1) := by decide +kernel
theorem dX4_strike_145 : decode cX4_strike 145 = .ok (.istore_n 2, 1) := by decide +kernel
theorem dX4_strike_146 : decode cX4_strike 146 = .ok (.iinc 3 1, 3) := by decide +kernel
theorem dX4_strike_149 : decode cX4_strike 149 = .ok (.goto (-68), 3) := by decide +kernel
theorem dX4_strike_152 : decode cX4_strike 152 = .ok (.aload_n 0, 1) := by decide +kernel
theorem dX4_strike_153 : decode cX4_strike 153 = .ok (.dup, 1) := by decide +kernel
theorem dX4_strike_154 : decode cX4_strike 154 = .ok (.getfield 162, 3) := by decide +kernel
theorem dX4_strike_157 : decode cX4_strike 157 = .ok (.iload_n 2, 1) := by decide +kernel
theorem dX4_strike_158 : decode cX4_strike 158 = .ok (.iadd, 1) := by decide +kernel
theorem dX4_strike_159 : decode cX4_strike 159 = .ok (.putfield 162, 3) := by decide +kernel
theorem dX4_strike_162 : decode cX4_strike 162 = .ok (.iload_n 2, 1) := by decide +kernel
theorem dX4_strike_163 : decode cX4_strike 163 = .ok (.ireturn, 1) := by decide +kernel
theorem dX4_blockTold_0 : decode cX4_blockTold 0 = .ok (.iload_n 2, 1) := by decide +kernel
theorem dX4_blockTold_1 : decode cX4_blockTold 1 = .ok (.ifCond .ne 12, 3) := by decide +kernel
theorem dX4_blockTold_4 : decode cX4_blockTold 4 = .ok (.aload_n 0, 1) := by decide +kernel
theorem dX4_blockTold_5 : decode cX4_blockTold 5 = .ok (.getfield 13, 3) := by decide +kernel
theorem dX4_blockTold_8 : decode cX4_blockTold 8 = .ok (.iload_n 1, 1) := by decide +kernel
theorem dX4_blockTold_9 : decode cX4_blockTold 9 = .ok (.iaload, 1) := by decide +kernel
theorem dX4_blockTold_10 : decode cX4_blockTold 10 = .ok (.goto 30, 3) := by decide +kernel
theorem dX4_blockTold_13 : decode cX4_blockTold 13 = .ok (.iload_n 2, 1) := by decide +kernel
theorem dX4_blockTold_14 : decode cX4_blockTold 14 = .ok (.iconst 1, 1) := by decide +kernel
theorem dX4_blockTold_15 : decode cX4_blockTold 15 = .ok (.if_icmp .ne 19, 3) := by decide +kernel
theorem dX4_blockTold_18 : decode cX4_blockTold 18 = .ok (.aload_n 0, 1) := by decide +kernel
theorem dX4_blockTold_19 : decode cX4_blockTold 19 = .ok (.getfield 13, 3) := by decide +kernel
theorem dX4_blockTold_22 : decode cX4_blockTold 22 = .ok (.iload_n 1, 1) := by decide +kernel
theorem dX4_blockTold_23 : decode cX4_blockTold 23 = .ok (.iaload, 1) := by decide +kernel
theorem dX4_blockTold_24 : decode cX4_blockTold 24 = .ok (.aload_n 0, 1) := by decide +kernel
theorem dX4_blockTold_25 : decode cX4_blockTold 25 = .ok (.getfield 16, 3) := by decide +kernel
theorem dX4_blockTold_28 : decode cX4_blockTold 28 = .ok (.iload_n 1, 1) := by decide +kernel
theorem dX4_blockTold_29 : decode cX4_blockTold 29 = .ok (.iaload, 1) := by decide +kernel
theorem dX4_blockTold_30 : decode cX4_blockTold 30 = .ok (.isub, 1) := by decide +kernel
theorem dX4_blockTold_31 : decode cX4_blockTold 31 = .ok (.goto 9, 3) := by decide +kernel
theorem dX4_blockTold_34 : decode cX4_blockTold 34 = .ok (.aload_n 0, 1) := by decide +kernel
theorem dX4_blockTold_35 : decode cX4_blockTold 35 = .ok (.getfield 19, 3) := by decide +kernel
theorem dX4_blockTold_38 : decode cX4_blockTold 38 = .ok (.iload_n 1, 1) := by decide +kernel
theorem dX4_blockTold_39 : decode cX4_blockTold 39 = .ok (.iaload, 1) := by decide +kernel
theorem dX4_blockTold_40 : decode cX4_blockTold 40 = .ok (.ireturn, 1) := by decide +kernel
theorem dX4_block_0 : decode cX4_block 0 = .ok (.aload_n 0, 1) := by decide +kernel
theorem dX4_block_1 : decode cX4_block 1 = .ok (.iconst 0, 1) := by decide +kernel
theorem dX4_block_2 : decode cX4_block 2 = .ok (.putfield 73, 3) := by decide +kernel
theorem dX4_block_5 : decode cX4_block 5 = .ok (.aload_n 0, 1) := by decide +kernel
theorem dX4_block_6 : decode cX4_block 6 = .ok (.iload_n 1, 1) := by decide +kernel
theorem dX4_block_7 : decode cX4_block 7 = .ok (.invokevirtual 130, 3) := by decide +kernel
theorem dX4_block_10 : decode cX4_block 10 = .ok (.ifCond .eq 33, 3) := by decide +kernel
theorem dX4_block_13 : decode cX4_block 13 = .ok (.iload_n 2, 1) := by decide +kernel
theorem dX4_block_14 : decode cX4_block 14 = .ok (.invokestatic 134, 3) := by decide +kernel
theorem dX4_block_17 : decode cX4_block 17 = .ok (.ifCond .eq 26, 3) := by decide +kernel
theorem dX4_block_20 : decode cX4_block 20 = .ok (.iload_n 3, 1) := by decide +kernel
theorem dX4_block_21 : decode cX4_block 21 = .ok (.iconst 0, 1) := by decide +kernel
theorem dX4_block_22 : decode cX4_block 22 = .ok (.iconst 2, 1) := by decide +kernel
theorem dX4_block_23 : decode cX4_block 23 = .ok (.invokestatic 80, 3) := by decide +kernel
theorem dX4_block_26 : decode cX4_block 26 = .ok (.ifCond .eq 17, 3) := by decide +kernel
theorem dX4_block_29 : decode cX4_block 29 = .ok (.aload_n 0, 1) := by decide +kernel
theorem dX4_block_30 : decode cX4_block 30 = .ok (.bipush 10, 2) := by decide +kernel
theorem dX4_block_32 : decode cX4_block 32 = .ok (.iload_n 1, 1) := by decide +kernel
theorem dX4_block_33 : decode cX4_block 33 = .ok (.imul, 1) := by decide +kernel
theorem dX4_block_34 : decode cX4_block 34 = .ok (.iload_n 2, 1) := by decide +kernel
theorem dX4_block_35 : decode cX4_block 35 = .ok (.iadd, 1) := by decide +kernel
theorem dX4_block_36 : decode cX4_block 36 = .ok (.iload_n 3, 1) := by decide +kernel
theorem dX4_block_37 : decode cX4_block 37 = .ok (.invokevirtual 165, 3) := by decide +kernel
theorem dX4_block_40 : decode cX4_block 40 = .ok (.goto 8, 3) := by decide +kernel
theorem dX4_block_43 : decode cX4_block 43 = .ok (.aload_n 0, 1) := by decide +kernel
theorem dX4_block_44 : decode cX4_block 44 = .ok (.iconst 1, 1) := by decide +kernel
theorem dX4_block_45 : decode cX4_block 45 = .ok (.invokevirtual 127, 3) := by decide +kernel
theorem dX4_block_48 : decode cX4_block 48 = .ok (.ireturn, 1) := by decide +kernel
theorem dX4_posterTold_0 : decode cX4_posterTold 0 = .ok (.iload_n 2, 1) := by decide +kernel
theorem dX4_posterTold_1 : decode cX4_posterTold 1 = .ok (.tableswitch 90 0 6 #[43, 50, 57, 64, 70, 77, 83], 43) := by decide +kernel
theorem dX4_posterTold_44 : decode cX4_posterTold 44 = .ok (.aload_n 0, 1) := by decide +kernel
theorem dX4_posterTold_45 : decode cX4_posterTold 45 = .ok (.getfield 31, 3) := by decide +kernel
theorem dX4_posterTold_48 : decode cX4_posterTold 48 = .ok (.iload_n 1, 1) := by decide +kernel
theorem dX4_posterTold_49 : decode cX4_posterTold 49 = .ok (.iaload, 1) := by decide +kernel
theorem dX4_posterTold_50 : decode cX4_posterTold 50 = .ok (.ireturn, 1) := by decide +kernel
theorem dX4_posterTold_51 : decode cX4_posterTold 51 = .ok (.aload_n 0, 1) := by decide +kernel
theorem dX4_posterTold_52 : decode cX4_posterTold 52 = .ok (.getfield 34, 3) := by decide +kernel
theorem dX4_posterTold_55 : decode cX4_posterTold 55 = .ok (.iload_n 1, 1) := by decide +kernel
theorem dX4_posterTold_56 : decode cX4_posterTold 56 = .ok (.iaload, 1) := by decide +kernel
theorem dX4_posterTold_57 : decode cX4_posterTold 57 = .ok (.ireturn, 1) := by decide +kernel
theorem dX4_posterTold_58 : decode cX4_posterTold 58 = .ok (.aload_n 0, 1) := by decide +kernel
theorem dX4_posterTold_59 : decode cX4_posterTold 59 = .ok (.getfield 37, 3) := by decide +kernel
theorem dX4_posterTold_62 : decode cX4_posterTold 62 = .ok (.iload_n 1, 1) := by decide +kernel
theorem dX4_posterTold_63 : decode cX4_posterTold 63 = .ok (.iaload, 1) := by decide +kernel
theorem dX4_posterTold_64 : decode cX4_posterTold 64 = .ok (.ireturn, 1) := by decide +kernel
theorem dX4_posterTold_65 : decode cX4_posterTold 65 = .ok (.aload_n 0, 1) := by decide +kernel
theorem dX4_posterTold_66 : decode cX4_posterTold 66 = .ok (.iload_n 1, 1) := by decide +kernel
theorem dX4_posterTold_67 : decode cX4_posterTold 67 = .ok (.invokevirtual 168, 3) := by decide +kernel
theorem dX4_posterTold_70 : decode cX4_posterTold 70 = .ok (.ireturn, 1) := by decide +kernel
theorem dX4_posterTold_71 : decode cX4_posterTold 71 = .ok (.aload_n 0, 1) := by decide +kernel
theorem dX4_posterTold_72 : decode cX4_posterTold 72 = .ok (.getfield 40, 3) := by decide +kernel
theorem dX4_posterTold_75 : decode cX4_posterTold 75 = .ok (.iload_n 1, 1) := by decide +kernel
theorem dX4_posterTold_76 : decode cX4_posterTold 76 = .ok (.iaload, 1) := by decide +kernel
theorem dX4_posterTold_77 : decode cX4_posterTold 77 = .ok (.ireturn, 1) := by decide +kernel
theorem dX4_posterTold_78 : decode cX4_posterTold 78 = .ok (.aload_n 0, 1) := by decide +kernel
theorem dX4_posterTold_79 : decode cX4_posterTold 79 = .ok (.iload_n 1, 1) := by decide +kernel
theorem dX4_posterTold_80 : decode cX4_posterTold 80 = .ok (.invokevirtual 117, 3) := by decide +kernel
theorem dX4_posterTold_83 : decode cX4_posterTold 83 = .ok (.ireturn, 1) := by decide +kernel
theorem dX4_posterTold_84 : decode cX4_posterTold 84 = .ok (.aload_n 0, 1) := by decide +kernel
theorem dX4_posterTold_85 : decode cX4_posterTold 85 = .ok (.getfield 43, 3) := by decide +kernel
theorem dX4_posterTold_88 : decode cX4_posterTold 88 = .ok (.iload_n 1, 1) := by decide +kernel
theorem dX4_posterTold_89 : decode cX4_posterTold 89 = .ok (.iaload, 1) := by decide +kernel
theorem dX4_posterTold_90 : decode cX4_posterTold 90 = .ok (.ireturn, 1) := by decide +kernel
theorem dX4_posterTold_91 : decode cX4_posterTold 91 = .ok (.aload_n 0, 1) := by decide +kernel
theorem dX4_posterTold_92 : decode cX4_posterTold 92 = .ok (.iload_n 1, 1) := by decide +kernel
theorem dX4_posterTold_93 : decode cX4_posterTold 93 = .ok (.invokevirtual 156, 3) := by decide +kernel
theorem dX4_posterTold_96 : decode cX4_posterTold 96 = .ok (.ireturn, 1) := by decide +kernel
theorem dX4_told_0 : decode cX4_told 0 = .ok (.aload_n 0, 1) := by decide +kernel
theorem dX4_told_1 : decode cX4_told 1 = .ok (.iconst 0, 1) := by decide +kernel
theorem dX4_told_2 : decode cX4_told 2 = .ok (.putfield 73, 3) := by decide +kernel
theorem dX4_told_5 : decode cX4_told 5 = .ok (.aload_n 0, 1) := by decide +kernel
theorem dX4_told_6 : decode cX4_told 6 = .ok (.iload_n 1, 1) := by decide +kernel
theorem dX4_told_7 : decode cX4_told 7 = .ok (.invokevirtual 143, 3) := by decide +kernel
theorem dX4_told_10 : decode cX4_told 10 = .ok (.ifCond .eq 22, 3) := by decide +kernel
theorem dX4_told_13 : decode cX4_told 13 = .ok (.iload_n 2, 1) := by decide +kernel
theorem dX4_told_14 : decode cX4_told 14 = .ok (.iconst 0, 1) := by decide +kernel
theorem dX4_told_15 : decode cX4_told 15 = .ok (.bipush 7, 2) := by decide +kernel
theorem dX4_told_17 : decode cX4_told 17 = .ok (.invokestatic 80, 3) := by decide +kernel
theorem dX4_told_20 : decode cX4_told 20 = .ok (.ifCond .eq 12, 3) := by decide +kernel
theorem dX4_told_23 : decode cX4_told 23 = .ok (.aload_n 0, 1) := by decide +kernel
theorem dX4_told_24 : decode cX4_told 24 = .ok (.iload_n 1, 1) := by decide +kernel
theorem dX4_told_25 : decode cX4_told 25 = .ok (.iload_n 2, 1) := by decide +kernel
theorem dX4_told_26 : decode cX4_told 26 = .ok (.invokevirtual 171, 3) := by decide +kernel
theorem dX4_told_29 : decode cX4_told 29 = .ok (.goto 8, 3) := by decide +kernel
theorem dX4_told_32 : decode cX4_told 32 = .ok (.aload_n 0, 1) := by decide +kernel
theorem dX4_told_33 : decode cX4_told 33 = .ok (.iconst 1, 1) := by decide +kernel
theorem dX4_told_34 : decode cX4_told 34 = .ok (.invokevirtual 127, 3) := by decide +kernel
theorem dX4_told_37 : decode cX4_told 37 = .ok (.ireturn, 1) := by decide +kernel
theorem dX4_lineTold_0 : decode cX4_lineTold 0 = .ok (.iconst 4, 1) := by decide +kernel
theorem dX4_lineTold_1 : decode cX4_lineTold 1 = .ok (.iload_n 1, 1) := by decide +kernel
theorem dX4_lineTold_2 : decode cX4_lineTold 2 = .ok (.imul, 1) := by decide +kernel
theorem dX4_lineTold_3 : decode cX4_lineTold 3 = .ok (.iload_n 2, 1) := by decide +kernel
theorem dX4_lineTold_4 : decode cX4_lineTold 4 = .ok (.iadd, 1) := by decide +kernel
theorem dX4_lineTold_5 : decode cX4_lineTold 5 = .ok (.istore 4, 2) := by decide +kernel
theorem dX4_lineTold_7 : decode cX4_lineTold 7 = .ok (.iload_n 3, 1) := by decide +kernel
theorem dX4_lineTold_8 : decode cX4_lineTold 8 = .ok (.ifCond .ne 14, 3) := by decide +kernel
theorem dX4_lineTold_11 : decode cX4_lineTold 11 = .ok (.aload_n 0, 1) := by decide +kernel
theorem dX4_lineTold_12 : decode cX4_lineTold 12 = .ok (.getfield 46, 3) := by decide +kernel
theorem dX4_lineTold_15 : decode cX4_lineTold 15 = .ok (.iload 4, 2) := by decide +kernel
theorem dX4_lineTold_17 : decode cX4_lineTold 17 = .ok (.iaload, 1) := by decide +kernel
theorem dX4_lineTold_18 : decode cX4_lineTold 18 = .ok (.invokestatic 90, 3) := by decide +kernel
theorem dX4_lineTold_21 : decode cX4_lineTold 21 = .ok (.ireturn, 1) := by decide +kernel
theorem dX4_lineTold_22 : decode cX4_lineTold 22 = .ok (.aload_n 0, 1) := by decide +kernel
theorem dX4_lineTold_23 : decode cX4_lineTold 23 = .ok (.getfield 40, 3) := by decide +kernel
theorem dX4_lineTold_26 : decode cX4_lineTold 26 = .ok (.iload_n 1, 1) := by decide +kernel
theorem dX4_lineTold_27 : decode cX4_lineTold 27 = .ok (.iaload, 1) := by decide +kernel
theorem dX4_lineTold_28 : decode cX4_lineTold 28 = .ok (.ifCond .ne 5, 3) := by decide +kernel
theorem dX4_lineTold_31 : decode cX4_lineTold 31 = .ok (.iconst (-1), 1) := by decide +kernel
theorem dX4_lineTold_32 : decode cX4_lineTold 32 = .ok (.ireturn, 1) := by decide +kernel
theorem dX4_lineTold_33 : decode cX4_lineTold 33 = .ok (.iload_n 3, 1) := by decide +kernel
theorem dX4_lineTold_34 : decode cX4_lineTold 34 = .ok (.iconst 1, 1) := by decide +kernel
theorem dX4_lineTold_35 : decode cX4_lineTold 35 = .ok (.if_icmp .ne 13, 3) := by decide +kernel
theorem dX4_lineTold_38 : decode cX4_lineTold 38 = .ok (.aload_n 0, 1) := by decide +kernel
theorem dX4_lineTold_39 : decode cX4_lineTold 39 = .ok (.getfield 49, 3) := by decide +kernel
theorem dX4_lineTold_42 : decode cX4_lineTold 42 = .ok (.iload 4, 2) := by decide +kernel
theorem dX4_lineTold_44 : decode cX4_lineTold 44 = .ok (.iaload, 1) := by decide +kernel
theorem dX4_lineTold_45 : decode cX4_lineTold 45 = .ok (.goto 25, 3) := by decide +kernel
theorem dX4_lineTold_48 : decode cX4_lineTold 48 = .ok (.iload_n 3, 1) := by decide +kernel
theorem dX4_lineTold_49 : decode cX4_lineTold 49 = .ok (.iconst 2, 1) := by decide +kernel
theorem dX4_lineTold_50 : decode cX4_lineTold 50 = .ok (.if_icmp .ne 13, 3) := by decide +kernel
theorem dX4_lineTold_53 : decode cX4_lineTold 53 = .ok (.aload_n 0, 1) := by decide +kernel
theorem dX4_lineTold_54 : decode cX4_lineTold 54 = .ok (.getfield 52, 3) := by decide +kernel
theorem dX4_lineTold_57 : decode cX4_lineTold 57 = .ok (.iload 4, 2) := by decide +kernel
theorem dX4_lineTold_59 : decode cX4_lineTold 59 = .ok (.iaload, 1) := by decide +kernel
theorem dX4_lineTold_60 : decode cX4_lineTold 60 = .ok (.goto 10, 3) := by decide +kernel
theorem dX4_lineTold_63 : decode cX4_lineTold 63 = .ok (.aload_n 0, 1) := by decide +kernel
theorem dX4_lineTold_64 : decode cX4_lineTold 64 = .ok (.getfield 55, 3) := by decide +kernel
theorem dX4_lineTold_67 : decode cX4_lineTold 67 = .ok (.iload 4, 2) := by decide +kernel
theorem dX4_lineTold_69 : decode cX4_lineTold 69 = .ok (.iaload, 1) := by decide +kernel
theorem dX4_lineTold_70 : decode cX4_lineTold 70 = .ok (.ireturn, 1) := by decide +kernel
theorem dX4_about_0 : decode cX4_about 0 = .ok (.aload_n 0, 1) := by decide +kernel
theorem dX4_about_1 : decode cX4_about 1 = .ok (.iconst 0, 1) := by decide +kernel
theorem dX4_about_2 : decode cX4_about 2 = .ok (.putfield 73, 3) := by decide +kernel
theorem dX4_about_5 : decode cX4_about 5 = .ok (.aload_n 0, 1) := by decide +kernel
theorem dX4_about_6 : decode cX4_about 6 = .ok (.iload_n 1, 1) := by decide +kernel
theorem dX4_about_7 : decode cX4_about 7 = .ok (.invokevirtual 143, 3) := by decide +kernel
theorem dX4_about_10 : decode cX4_about 10 = .ok (.ifCond .eq 38, 3) := by decide +kernel
theorem dX4_about_13 : decode cX4_about 13 = .ok (.iload_n 2, 1) := by decide +kernel
theorem dX4_about_14 : decode cX4_about 14 = .ok (.iconst 0, 1) := by decide +kernel
theorem dX4_about_15 : decode cX4_about 15 = .ok (.aload_n 0, 1) := by decide +kernel
theorem dX4_about_16 : decode cX4_about 16 = .ok (.getfield 37, 3) := by decide +kernel
theorem dX4_about_19 : decode cX4_about 19 = .ok (.iload_n 1, 1) := by decide +kernel
theorem dX4_about_20 : decode cX4_about 20 = .ok (.iaload, 1) := by decide +kernel
theorem dX4_about_21 : decode cX4_about 21 = .ok (.iconst 1, 1) := by decide +kernel
theorem dX4_about_22 : decode cX4_about 22 = .ok (.isub, 1) := by decide +kernel
theorem dX4_about_23 : decode cX4_about 23 = .ok (.invokestatic 80, 3) := by decide +kernel
theorem dX4_about_26 : decode cX4_about 26 = .ok (.ifCond .eq 22, 3) := by decide +kernel
theorem dX4_about_29 : decode cX4_about 29 = .ok (.iload_n 3, 1) := by decide +kernel
theorem dX4_about_30 : decode cX4_about 30 = .ok (.iconst 0, 1) := by decide +kernel
theorem dX4_about_31 : decode cX4_about 31 = .ok (.iconst 3, 1) := by decide +kernel
theorem dX4_about_32 : decode cX4_about 32 = .ok (.invokestatic 80, 3) := by decide +kernel
theorem dX4_about_35 : decode cX4_about 35 = .ok (.ifCond .eq 13, 3) := by decide +kernel
theorem dX4_about_38 : decode cX4_about 38 = .ok (.aload_n 0, 1) := by decide +kernel
theorem dX4_about_39 : decode cX4_about 39 = .ok (.iload_n 1, 1) := by decide +kernel
theorem dX4_about_40 : decode cX4_about 40 = .ok (.iload_n 2, 1) := by decide +kernel
theorem dX4_about_41 : decode cX4_about 41 = .ok (.iload_n 3, 1) := by decide +kernel
theorem dX4_about_42 : decode cX4_about 42 = .ok (.invokevirtual 174, 3) := by decide +kernel
theorem dX4_about_45 : decode cX4_about 45 = .ok (.goto 8, 3) := by decide +kernel
theorem dX4_about_48 : decode cX4_about 48 = .ok (.aload_n 0, 1) := by decide +kernel
theorem dX4_about_49 : decode cX4_about 49 = .ok (.iconst 1, 1) := by decide +kernel
theorem dX4_about_50 : decode cX4_about 50 = .ok (.invokevirtual 127, 3) := by decide +kernel
theorem dX4_about_53 : decode cX4_about 53 = .ok (.ireturn, 1) := by decide +kernel
theorem dX4_sum_0 : decode cX4_sum 0 = .ok (.iconst 0, 1) := by decide +kernel
theorem dX4_sum_1 : decode cX4_sum 1 = .ok (.istore_n 2, 1) := by decide +kernel
theorem dX4_sum_2 : decode cX4_sum 2 = .ok (.iconst 0, 1) := by decide +kernel
theorem dX4_sum_3 : decode cX4_sum 3 = .ok (.istore_n 3, 1) := by decide +kernel
theorem dX4_sum_4 : decode cX4_sum 4 = .ok (.iload_n 3, 1) := by decide +kernel
theorem dX4_sum_5 : decode cX4_sum 5 = .ok (.iload_n 1, 1) := by decide +kernel
theorem dX4_sum_6 : decode cX4_sum 6 = .ok (.if_icmp .ge 15, 3) := by decide +kernel
theorem dX4_sum_9 : decode cX4_sum 9 = .ok (.iload_n 2, 1) := by decide +kernel
theorem dX4_sum_10 : decode cX4_sum 10 = .ok (.aload_n 0, 1) := by decide +kernel
theorem dX4_sum_11 : decode cX4_sum 11 = .ok (.iload_n 3, 1) := by decide +kernel
theorem dX4_sum_12 : decode cX4_sum 12 = .ok (.iaload, 1) := by decide +kernel
theorem dX4_sum_13 : decode cX4_sum 13 = .ok (.iadd, 1) := by decide +kernel
theorem dX4_sum_14 : decode cX4_sum 14 = .ok (.istore_n 2, 1) := by decide +kernel
theorem dX4_sum_15 : decode cX4_sum 15 = .ok (.iinc 3 1, 3) := by decide +kernel
theorem dX4_sum_18 : decode cX4_sum 18 = .ok (.goto (-14), 3) := by decide +kernel
theorem dX4_sum_21 : decode cX4_sum 21 = .ok (.iload_n 2, 1) := by decide +kernel
theorem dX4_sum_22 : decode cX4_sum 22 = .ok (.ireturn, 1) := by decide +kernel
theorem dX4_counted_0 : decode cX4_counted 0 = .ok (.iload_n 1, 1) := by decide +kernel
theorem dX4_counted_1 : decode cX4_counted 1 = .ok (.tableswitch 84 0 5 #[39, 44, 49, 61, 66, 71], 39) := by decide +kernel
theorem dX4_counted_40 : decode cX4_counted 40 = .ok (.aload_n 0, 1) := by decide +kernel
theorem dX4_counted_41 : decode cX4_counted 41 = .ok (.getfield 77, 3) := by decide +kernel
theorem dX4_counted_44 : decode cX4_counted 44 = .ok (.ireturn, 1) := by decide +kernel
theorem dX4_counted_45 : decode cX4_counted 45 = .ok (.aload_n 0, 1) := by decide +kernel
theorem dX4_counted_46 : decode cX4_counted 46 = .ok (.getfield 84, 3) := by decide +kernel
theorem dX4_counted_49 : decode cX4_counted 49 = .ok (.ireturn, 1) := by decide +kernel
theorem dX4_counted_50 : decode cX4_counted 50 = .ok (.aload_n 0, 1) := by decide +kernel
theorem dX4_counted_51 : decode cX4_counted 51 = .ok (.getfield 40, 3) := by decide +kernel
theorem dX4_counted_54 : decode cX4_counted 54 = .ok (.aload_n 0, 1) := by decide +kernel
theorem dX4_counted_55 : decode cX4_counted 55 = .ok (.getfield 84, 3) := by decide +kernel
theorem dX4_counted_58 : decode cX4_counted 58 = .ok (.invokestatic 177, 3) := by decide +kernel
theorem dX4_counted_61 : decode cX4_counted 61 = .ok (.ireturn, 1) := by decide +kernel
theorem dX4_counted_62 : decode cX4_counted 62 = .ok (.aload_n 0, 1) := by decide +kernel
theorem dX4_counted_63 : decode cX4_counted 63 = .ok (.getfield 159, 3) := by decide +kernel
theorem dX4_counted_66 : decode cX4_counted 66 = .ok (.ireturn, 1) := by decide +kernel
theorem dX4_counted_67 : decode cX4_counted 67 = .ok (.aload_n 0, 1) := by decide +kernel
theorem dX4_counted_68 : decode cX4_counted 68 = .ok (.getfield 162, 3) := by decide +kernel
theorem dX4_counted_71 : decode cX4_counted 71 = .ok (.ireturn, 1) := by decide +kernel
theorem dX4_counted_72 : decode cX4_counted 72 = .ok (.aload_n 0, 1) := by decide +kernel
theorem dX4_counted_73 : decode cX4_counted 73 = .ok (.getfield 13, 3) := by decide +kernel
theorem dX4_counted_76 : decode cX4_counted 76 = .ok (.aload_n 0, 1) := by decide +kernel
theorem dX4_counted_77 : decode cX4_counted 77 = .ok (.getfield 13, 3) := by decide +kernel
theorem dX4_counted_80 : decode cX4_counted 80 = .ok (.arraylength, 1) := by decide +kernel
theorem dX4_counted_81 : decode cX4_counted 81 = .ok (.invokestatic 177, 3) := by decide +kernel
theorem dX4_counted_84 : decode cX4_counted 84 = .ok (.ireturn, 1) := by decide +kernel
theorem dX4_counted_85 : decode cX4_counted 85 = .ok (.aload_n 0, 1) := by decide +kernel
theorem dX4_counted_86 : decode cX4_counted 86 = .ok (.getfield 16, 3) := by decide +kernel
theorem dX4_counted_89 : decode cX4_counted 89 = .ok (.aload_n 0, 1) := by decide +kernel
theorem dX4_counted_90 : decode cX4_counted 90 = .ok (.getfield 16, 3) := by decide +kernel
theorem dX4_counted_93 : decode cX4_counted 93 = .ok (.arraylength, 1) := by decide +kernel
theorem dX4_counted_94 : decode cX4_counted 94 = .ok (.invokestatic 177, 3) := by decide +kernel
theorem dX4_counted_97 : decode cX4_counted 97 = .ok (.ireturn, 1) := by decide +kernel
theorem dX4_count_0 : decode cX4_count 0 = .ok (.aload_n 0, 1) := by decide +kernel
theorem dX4_count_1 : decode cX4_count 1 = .ok (.iconst 0, 1) := by decide +kernel
theorem dX4_count_2 : decode cX4_count 2 = .ok (.putfield 73, 3) := by decide +kernel
theorem dX4_count_5 : decode cX4_count 5 = .ok (.iload_n 1, 1) := by decide +kernel
theorem dX4_count_6 : decode cX4_count 6 = .ok (.iconst 0, 1) := by decide +kernel
theorem dX4_count_7 : decode cX4_count 7 = .ok (.bipush 6, 2) := by decide +kernel
theorem dX4_count_9 : decode cX4_count 9 = .ok (.invokestatic 80, 3) := by decide +kernel
theorem dX4_count_12 : decode cX4_count 12 = .ok (.ifCond .eq 11, 3) := by decide +kernel
theorem dX4_count_15 : decode cX4_count 15 = .ok (.aload_n 0, 1) := by decide +kernel
theorem dX4_count_16 : decode cX4_count 16 = .ok (.iload_n 1, 1) := by decide +kernel
theorem dX4_count_17 : decode cX4_count 17 = .ok (.invokevirtual 181, 3) := by decide +kernel
theorem dX4_count_20 : decode cX4_count 20 = .ok (.goto 8, 3) := by decide +kernel
theorem dX4_count_23 : decode cX4_count 23 = .ok (.aload_n 0, 1) := by decide +kernel
theorem dX4_count_24 : decode cX4_count 24 = .ok (.iconst 1, 1) := by decide +kernel
theorem dX4_count_25 : decode cX4_count 25 = .ok (.invokevirtual 127, 3) := by decide +kernel
theorem dX4_count_28 : decode cX4_count 28 = .ok (.ireturn, 1) := by decide +kernel
theorem dX4_would_0 : decode cX4_would 0 = .ok (.aload_n 0, 1) := by decide +kernel
theorem dX4_would_1 : decode cX4_would 1 = .ok (.iconst 0, 1) := by decide +kernel
theorem dX4_would_2 : decode cX4_would 2 = .ok (.putfield 73, 3) := by decide +kernel
theorem dX4_would_5 : decode cX4_would 5 = .ok (.aload_n 0, 1) := by decide +kernel
theorem dX4_would_6 : decode cX4_would 6 = .ok (.iload_n 1, 1) := by decide +kernel
theorem dX4_would_7 : decode cX4_would 7 = .ok (.invokevirtual 143, 3) := by decide +kernel
theorem dX4_would_10 : decode cX4_would 10 = .ok (.ifCond .eq 12, 3) := by decide +kernel
theorem dX4_would_13 : decode cX4_would 13 = .ok (.iload_n 2, 1) := by decide +kernel
theorem dX4_would_14 : decode cX4_would 14 = .ok (.iconst 0, 1) := by decide +kernel
theorem dX4_would_15 : decode cX4_would 15 = .ok (.iconst 1, 1) := by decide +kernel
theorem dX4_would_16 : decode cX4_would 16 = .ok (.invokestatic 80, 3) := by decide +kernel
theorem dX4_would_19 : decode cX4_would 19 = .ok (.ifCond .ne 9, 3) := by decide +kernel
theorem dX4_would_22 : decode cX4_would 22 = .ok (.aload_n 0, 1) := by decide +kernel
theorem dX4_would_23 : decode cX4_would 23 = .ok (.iconst 1, 1) := by decide +kernel
theorem dX4_would_24 : decode cX4_would 24 = .ok (.invokevirtual 127, 3) := by decide +kernel
theorem dX4_would_27 : decode cX4_would 27 = .ok (.ireturn, 1) := by decide +kernel
theorem dX4_would_28 : decode cX4_would 28 = .ok (.iload_n 2, 1) := by decide +kernel
theorem dX4_would_29 : decode cX4_would 29 = .ok (.ifCond .ne 11, 3) := by decide +kernel
theorem dX4_would_32 : decode cX4_would 32 = .ok (.aload_n 0, 1) := by decide +kernel
theorem dX4_would_33 : decode cX4_would 33 = .ok (.iload_n 1, 1) := by decide +kernel
theorem dX4_would_34 : decode cX4_would 34 = .ok (.invokevirtual 184, 3) := by decide +kernel
theorem dX4_would_37 : decode cX4_would 37 = .ok (.goto 8, 3) := by decide +kernel
theorem dX4_would_40 : decode cX4_would 40 = .ok (.aload_n 0, 1) := by decide +kernel
theorem dX4_would_41 : decode cX4_would 41 = .ok (.iload_n 1, 1) := by decide +kernel
theorem dX4_would_42 : decode cX4_would 42 = .ok (.invokevirtual 124, 3) := by decide +kernel
theorem dX4_would_45 : decode cX4_would 45 = .ok (.ireturn, 1) := by decide +kernel
theorem dX4_next_0 : decode cX4_next 0 = .ok (.aload_n 0, 1) := by decide +kernel
theorem dX4_next_1 : decode cX4_next 1 = .ok (.iconst 0, 1) := by decide +kernel
theorem dX4_next_2 : decode cX4_next 2 = .ok (.putfield 73, 3) := by decide +kernel
theorem dX4_next_5 : decode cX4_next 5 = .ok (.iconst (-1), 1) := by decide +kernel
theorem dX4_next_6 : decode cX4_next 6 = .ok (.istore_n 1, 1) := by decide +kernel
theorem dX4_next_7 : decode cX4_next 7 = .ok (.iconst (-1), 1) := by decide +kernel
theorem dX4_next_8 : decode cX4_next 8 = .ok (.istore_n 2, 1) := by decide +kernel
theorem dX4_next_9 : decode cX4_next 9 = .ok (.iconst 0, 1) := by decide +kernel
theorem dX4_next_10 : decode cX4_next 10 = .ok (.istore_n 3, 1) := by decide +kernel
theorem dX4_next_11 : decode cX4_next 11 = .ok (.iload_n 3, 1) := by decide +kernel
theorem dX4_next_12 : decode cX4_next 12 = .ok (.aload_n 0, 1) := by decide +kernel
theorem dX4_next_13 : decode cX4_next 13 = .ok (.getfield 84, 3) := by decide +kernel
theorem dX4_next_16 : decode cX4_next 16 = .ok (.if_icmp .ge 30, 3) := by decide +kernel
theorem dX4_next_19 : decode cX4_next 19 = .ok (.aload_n 0, 1) := by decide +kernel
theorem dX4_next_20 : decode cX4_next 20 = .ok (.iload_n 3, 1) := by decide +kernel
theorem dX4_next_21 : decode cX4_next 21 = .ok (.invokevirtual 184, 3) := by decide +kernel
theorem dX4_next_24 : decode cX4_next 24 = .ok (.istore 4, 2) := by decide +kernel
theorem dX4_next_26 : decode cX4_next 26 = .ok (.iload 4, 2) := by decide +kernel
theorem dX4_next_28 : decode cX4_next 28 = .ok (.iload_n 2, 1) := by decide +kernel
theorem dX4_next_29 : decode cX4_next 29 = .ok (.if_icmp .gt 6, 3) := by decide +kernel
theorem dX4_next_32 : decode cX4_next 32 = .ok (.goto 8, 3) := by decide +kernel
theorem dX4_next_35 : decode cX4_next 35 = .ok (.iload_n 3, 1) := by decide +kernel
theorem dX4_next_36 : decode cX4_next 36 = .ok (.istore_n 1, 1) := by decide +kernel
theorem dX4_next_37 : decode cX4_next 37 = .ok (.iload 4, 2) := by decide +kernel
theorem dX4_next_39 : decode cX4_next 39 = .ok (.istore_n 2, 1) := by decide +kernel
theorem dX4_next_40 : decode cX4_next 40 = .ok (.iinc 3 1, 3) := by decide +kernel
theorem dX4_next_43 : decode cX4_next 43 = .ok (.goto (-32), 3) := by decide +kernel
theorem dX4_next_46 : decode cX4_next 46 = .ok (.iload_n 1, 1) := by decide +kernel
theorem dX4_next_47 : decode cX4_next 47 = .ok (.ireturn, 1) := by decide +kernel
theorem dX4_adviseTold_0 : decode cX4_adviseTold 0 = .ok (.iconst (-1), 1) := by decide +kernel
theorem dX4_adviseTold_1 : decode cX4_adviseTold 1 = .ok (.istore_n 2, 1) := by decide +kernel
theorem dX4_adviseTold_2 : decode cX4_adviseTold 2 = .ok (.aload_n 0, 1) := by decide +kernel
theorem dX4_adviseTold_3 : decode cX4_adviseTold 3 = .ok (.iload_n 1, 1) := by decide +kernel
theorem dX4_adviseTold_4 : decode cX4_adviseTold 4 = .ok (.invokevirtual 124, 3) := by decide +kernel
theorem dX4_adviseTold_7 : decode cX4_adviseTold 7 = .ok (.istore_n 3, 1) := by decide +kernel
theorem dX4_adviseTold_8 : decode cX4_adviseTold 8 = .ok (.iconst 0, 1) := by decide +kernel
theorem dX4_adviseTold_9 : decode cX4_adviseTold 9 = .ok (.istore 4, 2) := by decide +kernel
theorem dX4_adviseTold_11 : decode cX4_adviseTold 11 = .ok (.iload 4, 2) := by decide +kernel
theorem dX4_adviseTold_13 : decode cX4_adviseTold 13 = .ok (.bipush 10, 2) := by decide +kernel
theorem dX4_adviseTold_15 : decode cX4_adviseTold 15 = .ok (.aload_n 0, 1) := by decide +kernel
theorem dX4_adviseTold_16 : decode cX4_adviseTold 16 = .ok (.getfield 77, 3) := by decide +kernel
theorem dX4_adviseTold_19 : decode cX4_adviseTold 19 = .ok (.imul, 1) := by decide +kernel
theorem dX4_adviseTold_20 : decode cX4_adviseTold 20 = .ok (.if_icmp .ge 79, 3) := by decide +kernel
theorem dX4_adviseTold_23 : decode cX4_adviseTold 23 = .ok (.aload_n 0, 1) := by decide +kernel
theorem dX4_adviseTold_24 : decode cX4_adviseTold 24 = .ok (.getfield 13, 3) := by decide +kernel
theorem dX4_adviseTold_27 : decode cX4_adviseTold 27 = .ok (.iload 4, 2) := by decide +kernel
theorem dX4_adviseTold_29 : decode cX4_adviseTold 29 = .ok (.iaload, 1) := by decide +kernel
theorem dX4_adviseTold_30 : decode cX4_adviseTold 30 = .ok (.bipush 9, 2) := by decide +kernel
theorem dX4_adviseTold_32 : decode cX4_adviseTold 32 = .ok (.if_icmp .ne 6, 3) := by decide +kernel
theorem dX4_adviseTold_35 : decode cX4_adviseTold 35 = .ok (.goto 58, 3) := by decide +kernel
theorem dX4_adviseTold_38 : decode cX4_adviseTold 38 = .ok (.aload_n 0, 1) := by decide +kernel
theorem dX4_adviseTold_39 : decode cX4_adviseTold 39 = .ok (.getfield 13, 3) := by decide +kernel
theorem dX4_adviseTold_42 : decode cX4_adviseTold 42 = .ok (.iload 4, 2) := by decide +kernel
theorem dX4_adviseTold_44 : decode cX4_adviseTold 44 = .ok (.dup2, 1) := by decide +kernel
theorem dX4_adviseTold_45 : decode cX4_adviseTold 45 = .ok (.iaload, 1) := by decide +kernel
theorem dX4_adviseTold_46 : decode cX4_adviseTold 46 = .ok (.iconst 1, 1) := by decide +kernel
theorem dX4_adviseTold_47 : decode cX4_adviseTold 47 = .ok (.iadd, 1) := by decide +kernel
theorem dX4_adviseTold_48 : decode cX4_adviseTold 48 = .ok (.iastore, 1) := by decide +kernel
theorem dX4_adviseTold_49 : decode cX4_adviseTold 49 = .ok (.aload_n 0, 1) := by decide +kernel
theorem dX4_adviseTold_50 : decode cX4_adviseTold 50 = .ok (.iload_n 1, 1) := by decide +kernel
theorem dX4_adviseTold_51 : decode cX4_adviseTold 51 = .ok (.invokevirtual 124, 3) := by decide +kernel
theorem dX4_adviseTold_54 : decode cX4_adviseTold 54 = .ok (.istore 5, 2) := by decide +kernel
theorem dX4_adviseTold_56 : decode cX4_adviseTold 56 = .ok (.aload_n 0, 1) := by decide +kernel
theorem dX4_adviseTold_57 : decode cX4_adviseTold 57 = .ok (.getfield 13, 3) := by decide +kernel
theorem dX4_adviseTold_60 : decode cX4_adviseTold 60 = .ok (.iload 4, 2) := by decide +kernel
theorem dX4_adviseTold_62 : decode cX4_adviseTold 62 = .ok (.dup2, 1) := by decide +kernel
theorem dX4_adviseTold_63 : decode cX4_adviseTold 63 = .ok (.iaload, 1) := by decide +kernel
theorem dX4_adviseTold_64 : decode cX4_adviseTold 64 = .ok (.iconst 1, 1) := by decide +kernel
theorem dX4_adviseTold_65 : decode cX4_adviseTold 65 = .ok (.isub, 1) := by decide +kernel
theorem dX4_adviseTold_66 : decode cX4_adviseTold 66 = .ok (.iastore, 1) := by decide +kernel
theorem dX4_adviseTold_67 : decode cX4_adviseTold 67 = .ok (.iload 5, 2) := by decide +kernel
theorem dX4_adviseTold_69 : decode cX4_adviseTold 69 = .ok (.iconst (-1), 1) := by decide +kernel
theorem dX4_adviseTold_70 : decode cX4_adviseTold 70 = .ok (.if_icmp .eq 23, 3) := by decide +kernel
theorem dX4_adviseTold_73 : decode cX4_adviseTold 73 = .ok (.iload_n 3, 1) := by decide +kernel
theorem dX4_adviseTold_74 : decode cX4_adviseTold 74 = .ok (.iconst (-1), 1) := by decide +kernel
theorem dX4_adviseTold_75 : decode cX4_adviseTold 75 = .ok (.if_icmp .eq 12, 3) := by decide +kernel
theorem dX4_adviseTold_78 : decode cX4_adviseTold 78 = .ok (.iload 5, 2) := by decide +kernel
theorem dX4_adviseTold_80 : decode cX4_adviseTold 80 = .ok (.iload_n 3, 1) := by decide +kernel
theorem dX4_adviseTold_81 : decode cX4_adviseTold 81 = .ok (.if_icmp .lt 6, 3) := by decide +kernel
theorem dX4_adviseTold_84 : decode cX4_adviseTold 84 = .ok (.goto 9, 3) := by decide +kernel
theorem dX4_adviseTold_87 : decode cX4_adviseTold 87 = .ok (.iload 4, 2) := by decide +kernel
theorem dX4_adviseTold_89 : decode cX4_adviseTold 89 = .ok (.istore_n 2, 1) := by decide +kernel
theorem dX4_adviseTold_90 : decode cX4_adviseTold 90 = .ok (.iload 5, 2) := by decide +kernel
theorem dX4_adviseTold_92 : decode cX4_adviseTold 92 = .ok (.istore_n 3, 1) := by decide +kernel
theorem dX4_adviseTold_93 : decode cX4_adviseTold 93 = .ok (.iinc 4 1, 3) := by decide +kernel
theorem dX4_adviseTold_96 : decode cX4_adviseTold 96 = .ok (.goto (-85), 3) := by decide +kernel
theorem dX4_adviseTold_99 : decode cX4_adviseTold 99 = .ok (.iload_n 2, 1) := by decide +kernel
theorem dX4_adviseTold_100 : decode cX4_adviseTold 100 = .ok (.ireturn, 1) := by decide +kernel
theorem dX4_advise_0 : decode cX4_advise 0 = .ok (.aload_n 0, 1) := by decide +kernel
theorem dX4_advise_1 : decode cX4_advise 1 = .ok (.iconst 0, 1) := by decide +kernel
theorem dX4_advise_2 : decode cX4_advise 2 = .ok (.putfield 73, 3) := by decide +kernel
theorem dX4_advise_5 : decode cX4_advise 5 = .ok (.aload_n 0, 1) := by decide +kernel
theorem dX4_advise_6 : decode cX4_advise 6 = .ok (.iload_n 1, 1) := by decide +kernel
theorem dX4_advise_7 : decode cX4_advise 7 = .ok (.invokevirtual 143, 3) := by decide +kernel
theorem dX4_advise_10 : decode cX4_advise 10 = .ok (.ifCond .eq 11, 3) := by decide +kernel
theorem dX4_advise_13 : decode cX4_advise 13 = .ok (.aload_n 0, 1) := by decide +kernel
theorem dX4_advise_14 : decode cX4_advise 14 = .ok (.iload_n 1, 1) := by decide +kernel
theorem dX4_advise_15 : decode cX4_advise 15 = .ok (.invokevirtual 187, 3) := by decide +kernel
theorem dX4_advise_18 : decode cX4_advise 18 = .ok (.goto 8, 3) := by decide +kernel
theorem dX4_advise_21 : decode cX4_advise 21 = .ok (.aload_n 0, 1) := by decide +kernel
theorem dX4_advise_22 : decode cX4_advise 22 = .ok (.iconst 1, 1) := by decide +kernel
theorem dX4_advise_23 : decode cX4_advise 23 = .ok (.invokevirtual 127, 3) := by decide +kernel
theorem dX4_advise_26 : decode cX4_advise 26 = .ok (.ireturn, 1) := by decide +kernel
theorem dX4_lasts_0 : decode cX4_lasts 0 = .ok (.aload_n 0, 1) := by decide +kernel
theorem dX4_lasts_1 : decode cX4_lasts 1 = .ok (.iconst 0, 1) := by decide +kernel
theorem dX4_lasts_2 : decode cX4_lasts 2 = .ok (.putfield 73, 3) := by decide +kernel
theorem dX4_lasts_5 : decode cX4_lasts 5 = .ok (.aload_n 0, 1) := by decide +kernel
theorem dX4_lasts_6 : decode cX4_lasts 6 = .ok (.iload_n 1, 1) := by decide +kernel
theorem dX4_lasts_7 : decode cX4_lasts 7 = .ok (.invokevirtual 143, 3) := by decide +kernel
theorem dX4_lasts_10 : decode cX4_lasts 10 = .ok (.ifCond .ne 9, 3) := by decide +kernel
theorem dX4_lasts_13 : decode cX4_lasts 13 = .ok (.aload_n 0, 1) := by decide +kernel
theorem dX4_lasts_14 : decode cX4_lasts 14 = .ok (.iconst 1, 1) := by decide +kernel
theorem dX4_lasts_15 : decode cX4_lasts 15 = .ok (.invokevirtual 127, 3) := by decide +kernel
theorem dX4_lasts_18 : decode cX4_lasts 18 = .ok (.ireturn, 1) := by decide +kernel
theorem dX4_lasts_19 : decode cX4_lasts 19 = .ok (.aload_n 0, 1) := by decide +kernel
theorem dX4_lasts_20 : decode cX4_lasts 20 = .ok (.getfield 40, 3) := by decide +kernel
theorem dX4_lasts_23 : decode cX4_lasts 23 = .ok (.iload_n 1, 1) := by decide +kernel
theorem dX4_lasts_24 : decode cX4_lasts 24 = .ok (.iaload, 1) := by decide +kernel
theorem dX4_lasts_25 : decode cX4_lasts 25 = .ok (.ifCond .ne 9, 3) := by decide +kernel
theorem dX4_lasts_28 : decode cX4_lasts 28 = .ok (.aload_n 0, 1) := by decide +kernel
theorem dX4_lasts_29 : decode cX4_lasts 29 = .ok (.iconst 2, 1) := by decide +kernel
theorem dX4_lasts_30 : decode cX4_lasts 30 = .ok (.invokevirtual 127, 3) := by decide +kernel
theorem dX4_lasts_33 : decode cX4_lasts 33 = .ok (.ireturn, 1) := by decide +kernel
theorem dX4_lasts_34 : decode cX4_lasts 34 = .ok (.sipush 400, 3) := by decide +kernel
theorem dX4_lasts_37 : decode cX4_lasts 37 = .ok (.istore_n 2, 1) := by decide +kernel
theorem dX4_lasts_38 : decode cX4_lasts 38 = .ok (.iconst 0, 1) := by decide +kernel
theorem dX4_lasts_39 : decode cX4_lasts 39 = .ok (.istore_n 3, 1) := by decide +kernel
theorem dX4_lasts_40 : decode cX4_lasts 40 = .ok (.iload_n 3, 1) := by decide +kernel
theorem dX4_lasts_41 : decode cX4_lasts 41 = .ok (.bipush 50, 2) := by decide +kernel
theorem dX4_lasts_43 : decode cX4_lasts 43 = .ok (.if_icmp .ge 56, 3) := by decide +kernel
theorem dX4_lasts_46 : decode cX4_lasts 46 = .ok (.aload_n 0, 1) := by decide +kernel
theorem dX4_lasts_47 : decode cX4_lasts 47 = .ok (.iload_n 1, 1) := by decide +kernel
theorem dX4_lasts_48 : decode cX4_lasts 48 = .ok (.iload_n 3, 1) := by decide +kernel
theorem dX4_lasts_49 : decode cX4_lasts 49 = .ok (.bipush 10, 2) := by decide +kernel
theorem dX4_lasts_51 : decode cX4_lasts 51 = .ok (.idiv, 1) := by decide +kernel
theorem dX4_lasts_52 : decode cX4_lasts 52 = .ok (.iload_n 3, 1) := by decide +kernel
theorem dX4_lasts_53 : decode cX4_lasts 53 = .ok (.bipush 10, 2) := by decide +kernel
theorem dX4_lasts_55 : decode cX4_lasts 55 = .ok (.irem, 1) := by decide +kernel
theorem dX4_lasts_56 : decode cX4_lasts 56 = .ok (.invokevirtual 153, 3) := by decide +kernel
theorem dX4_lasts_59 : decode cX4_lasts 59 = .ok (.istore 4, 2) := by decide +kernel
theorem dX4_lasts_61 : decode cX4_lasts 61 = .ok (.iload 4, 2) := by decide +kernel
theorem dX4_lasts_63 : decode cX4_lasts 63 = .ok (.ifCond .le 30, 3) := by decide +kernel
theorem dX4_lasts_66 : decode cX4_lasts 66 = .ok (.iload_n 2, 1) := by decide +kernel
theorem dX4_lasts_67 : decode cX4_lasts 67 = .ok (.iconst 0, 1) := by decide +kernel
theorem dX4_lasts_68 : decode cX4_lasts 68 = .ok (.sipush 400, 3) := by decide +kernel
theorem dX4_lasts_71 : decode cX4_lasts 71 = .ok (.aload_n 0, 1) := by decide +kernel
theorem dX4_lasts_72 : decode cX4_lasts 72 = .ok (.getfield 19, 3) := by decide +kernel
theorem dX4_lasts_75 : decode cX4_lasts 75 = .ok (.iload_n 3, 1) := by decide +kernel
theorem dX4_lasts_76 : decode cX4_lasts 76 = .ok (.iaload, 1) := by decide +kernel
theorem dX4_lasts_77 : decode cX4_lasts 77 = .ok (.isub, 1) := by decide +kernel
theorem dX4_lasts_78 : decode cX4_lasts 78 = .ok (.iload 4, 2) := by decide +kernel
theorem dX4_lasts_80 : decode cX4_lasts 80 = .ok (.iadd, 1) := by decide +kernel
theorem dX4_lasts_81 : decode cX4_lasts 81 = .ok (.iconst 1, 1) := by decide +kernel
theorem dX4_lasts_82 : decode cX4_lasts 82 = .ok (.isub, 1) := by decide +kernel
theorem dX4_lasts_83 : decode cX4_lasts 83 = .ok (.iload 4, 2) := by decide +kernel
theorem dX4_lasts_85 : decode cX4_lasts 85 = .ok (.idiv, 1) := by decide +kernel
theorem dX4_lasts_86 : decode cX4_lasts 86 = .ok (.invokestatic 112, 3) := by decide +kernel
theorem dX4_lasts_89 : decode cX4_lasts 89 = .ok (.invokestatic 137, 3) := by decide +kernel
theorem dX4_lasts_92 : decode cX4_lasts 92 = .ok (.istore_n 2, 1) := by decide +kernel
theorem dX4_lasts_93 : decode cX4_lasts 93 = .ok (.iinc 3 1, 3) := by decide +kernel
theorem dX4_lasts_96 : decode cX4_lasts 96 = .ok (.goto (-56), 3) := by decide +kernel
theorem dX4_lasts_99 : decode cX4_lasts 99 = .ok (.iload_n 2, 1) := by decide +kernel
theorem dX4_lasts_100 : decode cX4_lasts 100 = .ok (.ireturn, 1) := by decide +kernel
theorem dX4_mean_0 : decode cX4_mean 0 = .ok (.aload_n 0, 1) := by decide +kernel
theorem dX4_mean_1 : decode cX4_mean 1 = .ok (.iconst 0, 1) := by decide +kernel
theorem dX4_mean_2 : decode cX4_mean 2 = .ok (.putfield 73, 3) := by decide +kernel
theorem dX4_mean_5 : decode cX4_mean 5 = .ok (.iconst 0, 1) := by decide +kernel
theorem dX4_mean_6 : decode cX4_mean 6 = .ok (.istore_n 1, 1) := by decide +kernel
theorem dX4_mean_7 : decode cX4_mean 7 = .ok (.iconst 0, 1) := by decide +kernel
theorem dX4_mean_8 : decode cX4_mean 8 = .ok (.istore_n 2, 1) := by decide +kernel
theorem dX4_mean_9 : decode cX4_mean 9 = .ok (.iconst 0, 1) := by decide +kernel
theorem dX4_mean_10 : decode cX4_mean 10 = .ok (.istore_n 3, 1) := by decide +kernel
theorem dX4_mean_11 : decode cX4_mean 11 = .ok (.iload_n 3, 1) := by decide +kernel
theorem dX4_mean_12 : decode cX4_mean 12 = .ok (.aload_n 0, 1) := by decide +kernel
theorem dX4_mean_13 : decode cX4_mean 13 = .ok (.getfield 84, 3) := by decide +kernel
theorem dX4_mean_16 : decode cX4_mean 16 = .ok (.if_icmp .ge 32, 3) := by decide +kernel
theorem dX4_mean_19 : decode cX4_mean 19 = .ok (.iload_n 1, 1) := by decide +kernel
theorem dX4_mean_20 : decode cX4_mean 20 = .ok (.aload_n 0, 1) := by decide +kernel
theorem dX4_mean_21 : decode cX4_mean 21 = .ok (.getfield 40, 3) := by decide +kernel
theorem dX4_mean_24 : decode cX4_mean 24 = .ok (.iload_n 3, 1) := by decide +kernel
theorem dX4_mean_25 : decode cX4_mean 25 = .ok (.iaload, 1) := by decide +kernel
theorem dX4_mean_26 : decode cX4_mean 26 = .ok (.aload_n 0, 1) := by decide +kernel
theorem dX4_mean_27 : decode cX4_mean 27 = .ok (.iload_n 3, 1) := by decide +kernel
theorem dX4_mean_28 : decode cX4_mean 28 = .ok (.invokevirtual 168, 3) := by decide +kernel
theorem dX4_mean_31 : decode cX4_mean 31 = .ok (.imul, 1) := by decide +kernel
theorem dX4_mean_32 : decode cX4_mean 32 = .ok (.iadd, 1) := by decide +kernel
theorem dX4_mean_33 : decode cX4_mean 33 = .ok (.istore_n 1, 1) := by decide +kernel
theorem dX4_mean_34 : decode cX4_mean 34 = .ok (.iload_n 2, 1) := by decide +kernel
theorem dX4_mean_35 : decode cX4_mean 35 = .ok (.aload_n 0, 1) := by decide +kernel
theorem dX4_mean_36 : decode cX4_mean 36 = .ok (.iload_n 3, 1) := by decide +kernel
theorem dX4_mean_37 : decode cX4_mean 37 = .ok (.invokevirtual 117, 3) := by decide +kernel
theorem dX4_mean_40 : decode cX4_mean 40 = .ok (.iadd, 1) := by decide +kernel
theorem dX4_mean_41 : decode cX4_mean 41 = .ok (.istore_n 2, 1) := by decide +kernel
theorem dX4_mean_42 : decode cX4_mean 42 = .ok (.iinc 3 1, 3) := by decide +kernel
theorem dX4_mean_45 : decode cX4_mean 45 = .ok (.goto (-34), 3) := by decide +kernel
theorem dX4_mean_48 : decode cX4_mean 48 = .ok (.iload_n 1, 1) := by decide +kernel
theorem dX4_mean_49 : decode cX4_mean 49 = .ok (.ifCond .ne 7, 3) := by decide +kernel
theorem dX4_mean_52 : decode cX4_mean 52 = .ok (.dconst 0, 1) := by decide +kernel
theorem dX4_mean_53 : decode cX4_mean 53 = .ok (.goto 8, 3) := by decide +kernel
theorem dX4_mean_56 : decode cX4_mean 56 = .ok (.iload_n 2, 1) := by decide +kernel
theorem dX4_mean_57 : decode cX4_mean 57 = .ok (.i2d, 1) := by decide +kernel
theorem dX4_mean_58 : decode cX4_mean 58 = .ok (.iload_n 1, 1) := by decide +kernel
theorem dX4_mean_59 : decode cX4_mean 59 = .ok (.i2d, 1) := by decide +kernel
theorem dX4_mean_60 : decode cX4_mean 60 = .ok (.ddiv, 1) := by decide +kernel
theorem dX4_mean_61 : decode cX4_mean 61 = .ok (.dreturn, 1) := by decide +kernel
theorem dX4_digest_0 : decode cX4_digest 0 = .ok (.aload_n 0, 1) := by decide +kernel
theorem dX4_digest_1 : decode cX4_digest 1 = .ok (.iconst 0, 1) := by decide +kernel
theorem dX4_digest_2 : decode cX4_digest 2 = .ok (.putfield 73, 3) := by decide +kernel
theorem dX4_digest_5 : decode cX4_digest 5 = .ok (.ldc2_w 190, 3) := by decide +kernel
theorem dX4_digest_8 : decode cX4_digest 8 = .ok (.lstore_n 1, 1) := by decide +kernel
theorem dX4_digest_9 : decode cX4_digest 9 = .ok (.iconst 0, 1) := by decide +kernel
theorem dX4_digest_10 : decode cX4_digest 10 = .ok (.istore_n 3, 1) := by decide +kernel
theorem dX4_digest_11 : decode cX4_digest 11 = .ok (.iload_n 3, 1) := by decide +kernel
theorem dX4_digest_12 : decode cX4_digest 12 = .ok (.bipush 6, 2) := by decide +kernel
theorem dX4_digest_14 : decode cX4_digest 14 = .ok (.if_icmp .gt 22, 3) := by decide +kernel
theorem dX4_digest_17 : decode cX4_digest 17 = .ok (.lload_n 1, 1) := by decide +kernel
theorem dX4_digest_18 : decode cX4_digest 18 = .ok (.ldc2_w 192, 3) := by decide +kernel
theorem dX4_digest_21 : decode cX4_digest 21 = .ok (.lmul, 1) := by decide +kernel
theorem dX4_digest_22 : decode cX4_digest 22 = .ok (.aload_n 0, 1) := by decide +kernel
theorem dX4_digest_23 : decode cX4_digest 23 = .ok (.iload_n 3, 1) := by decide +kernel
theorem dX4_digest_24 : decode cX4_digest 24 = .ok (.invokevirtual 181, 3) := by decide +kernel
theorem dX4_digest_27 : decode cX4_digest 27 = .ok (.i2l, 1) := by decide +kernel
theorem dX4_digest_28 : decode cX4_digest 28 = .ok (.ladd, 1) := by decide +kernel
theorem dX4_digest_29 : decode cX4_digest 29 = .ok (.lstore_n 1, 1) := by decide +kernel
theorem dX4_digest_30 : decode cX4_digest 30 = .ok (.iinc 3 1, 3) := by decide +kernel
theorem dX4_digest_33 : decode cX4_digest 33 = .ok (.goto (-22), 3) := by decide +kernel
theorem dX4_digest_36 : decode cX4_digest 36 = .ok (.aload_n 0, 1) := by decide +kernel
theorem dX4_digest_37 : decode cX4_digest 37 = .ok (.getfield 22, 3) := by decide +kernel
theorem dX4_digest_40 : decode cX4_digest 40 = .ok (.astore_n 3, 1) := by decide +kernel
theorem dX4_digest_41 : decode cX4_digest 41 = .ok (.aload_n 3, 1) := by decide +kernel
theorem dX4_digest_42 : decode cX4_digest 42 = .ok (.arraylength, 1) := by decide +kernel
theorem dX4_digest_43 : decode cX4_digest 43 = .ok (.istore 4, 2) := by decide +kernel
theorem dX4_digest_45 : decode cX4_digest 45 = .ok (.iconst 0, 1) := by decide +kernel
theorem dX4_digest_46 : decode cX4_digest 46 = .ok (.istore 5, 2) := by decide +kernel
theorem dX4_digest_48 : decode cX4_digest 48 = .ok (.iload 5, 2) := by decide +kernel
theorem dX4_digest_50 : decode cX4_digest 50 = .ok (.iload 4, 2) := by decide +kernel
theorem dX4_digest_52 : decode cX4_digest 52 = .ok (.if_icmp .ge 25, 3) := by decide +kernel
theorem dX4_digest_55 : decode cX4_digest 55 = .ok (.aload_n 3, 1) := by decide +kernel
theorem dX4_digest_56 : decode cX4_digest 56 = .ok (.iload 5, 2) := by decide +kernel
theorem dX4_digest_58 : decode cX4_digest 58 = .ok (.iaload, 1) := by decide +kernel
theorem dX4_digest_59 : decode cX4_digest 59 = .ok (.istore 6, 2) := by decide +kernel
theorem dX4_digest_61 : decode cX4_digest 61 = .ok (.lload_n 1, 1) := by decide +kernel
theorem dX4_digest_62 : decode cX4_digest 62 = .ok (.ldc2_w 192, 3) := by decide +kernel
theorem dX4_digest_65 : decode cX4_digest 65 = .ok (.lmul, 1) := by decide +kernel
theorem dX4_digest_66 : decode cX4_digest 66 = .ok (.iload 6, 2) := by decide +kernel
theorem dX4_digest_68 : decode cX4_digest 68 = .ok (.i2l, 1) := by decide +kernel
theorem dX4_digest_69 : decode cX4_digest 69 = .ok (.ladd, 1) := by decide +kernel
theorem dX4_digest_70 : decode cX4_digest 70 = .ok (.lstore_n 1, 1) := by decide +kernel
theorem dX4_digest_71 : decode cX4_digest 71 = .ok (.iinc 5 1, 3) := by decide +kernel
theorem dX4_digest_74 : decode cX4_digest 74 = .ok (.goto (-26), 3) := by decide +kernel
theorem dX4_digest_77 : decode cX4_digest 77 = .ok (.iconst 0, 1) := by decide +kernel
theorem dX4_digest_78 : decode cX4_digest 78 = .ok (.istore_n 3, 1) := by decide +kernel
theorem dX4_digest_79 : decode cX4_digest 79 = .ok (.iload_n 3, 1) := by decide +kernel
theorem dX4_digest_80 : decode cX4_digest 80 = .ok (.aload_n 0, 1) := by decide +kernel
theorem dX4_digest_81 : decode cX4_digest 81 = .ok (.getfield 77, 3) := by decide +kernel
theorem dX4_digest_84 : decode cX4_digest 84 = .ok (.if_icmp .ge 75, 3) := by decide +kernel
theorem dX4_digest_87 : decode cX4_digest 87 = .ok (.lload_n 1, 1) := by decide +kernel
theorem dX4_digest_88 : decode cX4_digest 88 = .ok (.ldc2_w 192, 3) := by decide +kernel
theorem dX4_digest_91 : decode cX4_digest 91 = .ok (.lmul, 1) := by decide +kernel
theorem dX4_digest_92 : decode cX4_digest 92 = .ok (.aload_n 0, 1) := by decide +kernel
theorem dX4_digest_93 : decode cX4_digest 93 = .ok (.getfield 9, 3) := by decide +kernel
theorem dX4_digest_96 : decode cX4_digest 96 = .ok (.iload_n 3, 1) := by decide +kernel
theorem dX4_digest_97 : decode cX4_digest 97 = .ok (.iaload, 1) := by decide +kernel
theorem dX4_digest_98 : decode cX4_digest 98 = .ok (.i2l, 1) := by decide +kernel
theorem dX4_digest_99 : decode cX4_digest 99 = .ok (.ladd, 1) := by decide +kernel
theorem dX4_digest_100 : decode cX4_digest 100 = .ok (.lstore_n 1, 1) := by decide +kernel
theorem dX4_digest_101 : decode cX4_digest 101 = .ok (.iconst 0, 1) := by decide +kernel
theorem dX4_digest_102 : decode cX4_digest 102 = .ok (.istore 4, 2) := by decide +kernel
theorem dX4_digest_104 : decode cX4_digest 104 = .ok (.iload 4, 2) := by decide +kernel
theorem dX4_digest_106 : decode cX4_digest 106 = .ok (.bipush 10, 2) := by decide +kernel
theorem dX4_digest_108 : decode cX4_digest 108 = .ok (.if_icmp .ge 45, 3) := by decide +kernel
theorem dX4_digest_111 : decode cX4_digest 111 = .ok (.iconst 0, 1) := by decide +kernel
theorem dX4_digest_112 : decode cX4_digest 112 = .ok (.istore 5, 2) := by decide +kernel
theorem dX4_digest_114 : decode cX4_digest 114 = .ok (.iload 5, 2) := by decide +kernel
theorem dX4_digest_116 : decode cX4_digest 116 = .ok (.iconst 2, 1) := by decide +kernel
theorem dX4_digest_117 : decode cX4_digest 117 = .ok (.if_icmp .gt 30, 3) := by decide +kernel
theorem dX4_digest_120 : decode cX4_digest 120 = .ok (.lload_n 1, 1) := by decide +kernel
theorem dX4_digest_121 : decode cX4_digest 121 = .ok (.ldc2_w 192, 3) := by decide +kernel
theorem dX4_digest_124 : decode cX4_digest 124 = .ok (.lmul, 1) := by decide +kernel
theorem dX4_digest_125 : decode cX4_digest 125 = .ok (.aload_n 0, 1) := by decide +kernel
theorem dX4_digest_126 : decode cX4_digest 126 = .ok (.bipush 10, 2) := by decide +kernel
theorem dX4_digest_128 : decode cX4_digest 128 = .ok (.iload_n 3, 1) := by decide +kernel
theorem dX4_digest_129 : decode cX4_digest 129 = .ok (.imul, 1) := by decide +kernel
theorem dX4_digest_130 : decode cX4_digest 130 = .ok (.iload 4, 2) := by decide +kernel
theorem dX4_digest_132 : decode cX4_digest 132 = .ok (.iadd, 1) := by decide +kernel
theorem dX4_digest_133 : decode cX4_digest 133 = .ok (.iload 5, 2) := by decide +kernel
theorem dX4_digest_135 : decode cX4_digest 135 = .ok (.invokevirtual 165, 3) := by decide +kernel
theorem dX4_digest_138 : decode cX4_digest 138 = .ok (.i2l, 1) := by decide +kernel
theorem dX4_digest_139 : decode cX4_digest 139 = .ok (.ladd, 1) := by decide +kernel
theorem dX4_digest_140 : decode cX4_digest 140 = .ok (.lstore_n 1, 1) := by decide +kernel
theorem dX4_digest_141 : decode cX4_digest 141 = .ok (.iinc 5 1, 3) := by decide +kernel
theorem dX4_digest_144 : decode cX4_digest 144 = .ok (.goto (-30), 3) := by decide +kernel
theorem dX4_digest_147 : decode cX4_digest 147 = .ok (.iinc 4 1, 3) := by decide +kernel
theorem dX4_digest_150 : decode cX4_digest 150 = .ok (.goto (-46), 3) := by decide +kernel
theorem dX4_digest_153 : decode cX4_digest 153 = .ok (.iinc 3 1, 3) := by decide +kernel
theorem dX4_digest_156 : decode cX4_digest 156 = .ok (.goto (-77), 3) := by decide +kernel
theorem dX4_digest_159 : decode cX4_digest 159 = .ok (.iconst 0, 1) := by decide +kernel
theorem dX4_digest_160 : decode cX4_digest 160 = .ok (.istore_n 3, 1) := by decide +kernel
theorem dX4_digest_161 : decode cX4_digest 161 = .ok (.iload_n 3, 1) := by decide +kernel
theorem dX4_digest_162 : decode cX4_digest 162 = .ok (.aload_n 0, 1) := by decide +kernel
theorem dX4_digest_163 : decode cX4_digest 163 = .ok (.getfield 84, 3) := by decide +kernel
theorem dX4_digest_166 : decode cX4_digest 166 = .ok (.if_icmp .ge 92, 3) := by decide +kernel
theorem dX4_digest_169 : decode cX4_digest 169 = .ok (.iconst 0, 1) := by decide +kernel
theorem dX4_digest_170 : decode cX4_digest 170 = .ok (.istore 4, 2) := by decide +kernel
theorem dX4_digest_172 : decode cX4_digest 172 = .ok (.iload 4, 2) := by decide +kernel
theorem dX4_digest_174 : decode cX4_digest 174 = .ok (.bipush 7, 2) := by decide +kernel
theorem dX4_digest_176 : decode cX4_digest 176 = .ok (.if_icmp .gt 24, 3) := by decide +kernel
theorem dX4_digest_179 : decode cX4_digest 179 = .ok (.lload_n 1, 1) := by decide +kernel
theorem dX4_digest_180 : decode cX4_digest 180 = .ok (.ldc2_w 192, 3) := by decide +kernel
theorem dX4_digest_183 : decode cX4_digest 183 = .ok (.lmul, 1) := by decide +kernel
theorem dX4_digest_184 : decode cX4_digest 184 = .ok (.aload_n 0, 1) := by decide +kernel
theorem dX4_digest_185 : decode cX4_digest 185 = .ok (.iload_n 3, 1) := by decide +kernel
theorem dX4_digest_186 : decode cX4_digest 186 = .ok (.iload 4, 2) := by decide +kernel
theorem dX4_digest_188 : decode cX4_digest 188 = .ok (.invokevirtual 171, 3) := by decide +kernel
theorem dX4_digest_191 : decode cX4_digest 191 = .ok (.i2l, 1) := by decide +kernel
theorem dX4_digest_192 : decode cX4_digest 192 = .ok (.ladd, 1) := by decide +kernel
theorem dX4_digest_193 : decode cX4_digest 193 = .ok (.lstore_n 1, 1) := by decide +kernel
theorem dX4_digest_194 : decode cX4_digest 194 = .ok (.iinc 4 1, 3) := by decide +kernel
theorem dX4_digest_197 : decode cX4_digest 197 = .ok (.goto (-25), 3) := by decide +kernel
theorem dX4_digest_200 : decode cX4_digest 200 = .ok (.iconst 0, 1) := by decide +kernel
theorem dX4_digest_201 : decode cX4_digest 201 = .ok (.istore 4, 2) := by decide +kernel
theorem dX4_digest_203 : decode cX4_digest 203 = .ok (.iload 4, 2) := by decide +kernel
theorem dX4_digest_205 : decode cX4_digest 205 = .ok (.aload_n 0, 1) := by decide +kernel
theorem dX4_digest_206 : decode cX4_digest 206 = .ok (.getfield 37, 3) := by decide +kernel
theorem dX4_digest_209 : decode cX4_digest 209 = .ok (.iload_n 3, 1) := by decide +kernel
theorem dX4_digest_210 : decode cX4_digest 210 = .ok (.iaload, 1) := by decide +kernel
theorem dX4_digest_211 : decode cX4_digest 211 = .ok (.if_icmp .ge 41, 3) := by decide +kernel
theorem dX4_digest_214 : decode cX4_digest 214 = .ok (.iconst 0, 1) := by decide +kernel
theorem dX4_digest_215 : decode cX4_digest 215 = .ok (.istore 5, 2) := by decide +kernel
theorem dX4_digest_217 : decode cX4_digest 217 = .ok (.iload 5, 2) := by decide +kernel
theorem dX4_digest_219 : decode cX4_digest 219 = .ok (.iconst 3, 1) := by decide +kernel
theorem dX4_digest_220 : decode cX4_digest 220 = .ok (.if_icmp .gt 26, 3) := by decide +kernel
theorem dX4_digest_223 : decode cX4_digest 223 = .ok (.lload_n 1, 1) := by decide +kernel
theorem dX4_digest_224 : decode cX4_digest 224 = .ok (.ldc2_w 192, 3) := by decide +kernel
theorem dX4_digest_227 : decode cX4_digest 227 = .ok (.lmul, 1) := by decide +kernel
theorem dX4_digest_228 : decode cX4_digest 228 = .ok (.aload_n 0, 1) := by decide +kernel
theorem dX4_digest_229 : decode cX4_digest 229 = .ok (.iload_n 3, 1) := by decide +kernel
theorem dX4_digest_230 : decode cX4_digest 230 = .ok (.iload 4, 2) := by decide +kernel
theorem dX4_digest_232 : decode cX4_digest 232 = .ok (.iload 5, 2) := by decide +kernel
theorem dX4_digest_234 : decode cX4_digest 234 = .ok (.invokevirtual 174, 3) := by decide +kernel
theorem dX4_digest_237 : decode cX4_digest 237 = .ok (.i2l, 1) := by decide +kernel
theorem dX4_digest_238 : decode cX4_digest 238 = .ok (.ladd, 1) := by decide +kernel
theorem dX4_digest_239 : decode cX4_digest 239 = .ok (.lstore_n 1, 1) := by decide +kernel
theorem dX4_digest_240 : decode cX4_digest 240 = .ok (.iinc 5 1, 3) := by decide +kernel
theorem dX4_digest_243 : decode cX4_digest 243 = .ok (.goto (-26), 3) := by decide +kernel
theorem dX4_digest_246 : decode cX4_digest 246 = .ok (.iinc 4 1, 3) := by decide +kernel
theorem dX4_digest_249 : decode cX4_digest 249 = .ok (.goto (-46), 3) := by decide +kernel
theorem dX4_digest_252 : decode cX4_digest 252 = .ok (.iinc 3 1, 3) := by decide +kernel
theorem dX4_digest_255 : decode cX4_digest 255 = .ok (.goto (-94), 3) := by decide +kernel
theorem dX4_digest_258 : decode cX4_digest 258 = .ok (.lload_n 1, 1) := by decide +kernel
theorem dX4_digest_259 : decode cX4_digest 259 = .ok (.lreturn, 1) := by decide +kernel
theorem dJ9_max_7cf53_0 : decode cJ9_max_7cf53 0 = .ok (.iload_n 0, 1) := by decide +kernel
theorem dJ9_max_7cf53_1 : decode cJ9_max_7cf53 1 = .ok (.iload_n 1, 1) := by decide +kernel
theorem dJ9_max_7cf53_2 : decode cJ9_max_7cf53 2 = .ok (.if_icmp .lt 7, 3) := by decide +kernel
theorem dJ9_max_7cf53_5 : decode cJ9_max_7cf53 5 = .ok (.iload_n 0, 1) := by decide +kernel
theorem dJ9_max_7cf53_6 : decode cJ9_max_7cf53 6 = .ok (.goto 4, 3) := by decide +kernel
theorem dJ9_max_7cf53_9 : decode cJ9_max_7cf53 9 = .ok (.iload_n 1, 1) := by decide +kernel
theorem dJ9_max_7cf53_10 : decode cJ9_max_7cf53 10 = .ok (.ireturn, 1) := by decide +kernel
theorem dJ9_min_7cf53_0 : decode cJ9_min_7cf53 0 = .ok (.iload_n 0, 1) := by decide +kernel
theorem dJ9_min_7cf53_1 : decode cJ9_min_7cf53 1 = .ok (.iload_n 1, 1) := by decide +kernel
theorem dJ9_min_7cf53_2 : decode cJ9_min_7cf53 2 = .ok (.if_icmp .gt 7, 3) := by decide +kernel
theorem dJ9_min_7cf53_5 : decode cJ9_min_7cf53 5 = .ok (.iload_n 0, 1) := by decide +kernel
theorem dJ9_min_7cf53_6 : decode cJ9_min_7cf53 6 = .ok (.goto 4, 3) := by decide +kernel
theorem dJ9_min_7cf53_9 : decode cJ9_min_7cf53 9 = .ok (.iload_n 1, 1) := by decide +kernel
theorem dJ9_min_7cf53_10 : decode cJ9_min_7cf53 10 = .ok (.ireturn, 1) := by decide +kernel
theorem dJxa1e45_init_da8c8_0 : decode cJxa1e45_init_da8c8 0 = .ok (.aload_n 0, 1) := by decide +kernel
theorem dJxa1e45_init_da8c8_1 : decode cJxa1e45_init_da8c8 1 = .ok (.invokespecial 1, 3) := by decide +kernel
theorem dJxa1e45_init_da8c8_4 : decode cJxa1e45_init_da8c8 4 = .ok (.return_, 1) := by decide +kernel
theorem dJxc12de_init_da8c8_0 : decode cJxc12de_init_da8c8 0 = .ok (.aload_n 0, 1) := by decide +kernel
theorem dJxc12de_init_da8c8_1 : decode cJxc12de_init_da8c8 1 = .ok (.invokespecial 1, 3) := by decide +kernel
theorem dJxc12de_init_da8c8_4 : decode cJxc12de_init_da8c8 4 = .ok (.aload_n 0, 1) := by decide +kernel
theorem dJxc12de_init_da8c8_5 : decode cJxc12de_init_da8c8 5 = .ok (.iconst 0, 1) := by decide +kernel
theorem dJxc12de_init_da8c8_6 : decode cJxc12de_init_da8c8 6 = .ok (.putfield 7, 3) := by decide +kernel
theorem dJxc12de_init_da8c8_9 : decode cJxc12de_init_da8c8 9 = .ok (.return_, 1) := by decide +kernel
theorem dJx4a65c_init_da8c8_0 : decode cJx4a65c_init_da8c8 0 = .ok (.aload_n 0, 1) := by decide +kernel
theorem dJx4a65c_init_da8c8_1 : decode cJx4a65c_init_da8c8 1 = .ok (.invokespecial 1, 3) := by decide +kernel
theorem dJx4a65c_init_da8c8_4 : decode cJx4a65c_init_da8c8 4 = .ok (.aload_n 0, 1) := by decide +kernel
theorem dJx4a65c_init_da8c8_5 : decode cJx4a65c_init_da8c8 5 = .ok (.getstatic 39, 3) := by decide +kernel
theorem dJx4a65c_init_da8c8_8 : decode cJx4a65c_init_da8c8 8 = .ok (.putfield 9, 3) := by decide +kernel
theorem dJx4a65c_init_da8c8_11 : decode cJx4a65c_init_da8c8 11 = .ok (.return_, 1) := by decide +kernel
theorem dJx4a65c_grow_92f84_0 : decode cJx4a65c_grow_92f84 0 = .ok (.aload_n 0, 1) := by decide +kernel
theorem dJx4a65c_grow_92f84_1 : decode cJx4a65c_grow_92f84 1 = .ok (.getfield 9, 3) := by decide +kernel
theorem dJx4a65c_grow_92f84_4 : decode cJx4a65c_grow_92f84 4 = .ok (.arraylength, 1) := by decide +kernel
theorem dJx4a65c_grow_92f84_5 : decode cJx4a65c_grow_92f84 5 = .ok (.istore_n 2, 1) := by decide +kernel
theorem dJx4a65c_grow_92f84_6 : decode cJx4a65c_grow_92f84 6 = .ok (.iload_n 2, 1) := by decide +kernel
theorem dJx4a65c_grow_92f84_7 : decode cJx4a65c_grow_92f84 7 = .ok (.ifCond .gt 13, 3) := by decide +kernel
theorem dJx4a65c_grow_92f84_10 : decode cJx4a65c_grow_92f84 10 = .ok (.aload_n 0, 1) := by decide +kernel
theorem dJx4a65c_grow_92f84_11 : decode cJx4a65c_grow_92f84 11 = .ok (.getfield 9, 3) := by decide +kernel
theorem dJx4a65c_grow_92f84_14 : decode cJx4a65c_grow_92f84 14 = .ok (.getstatic 39, 3) := by decide +kernel
theorem dJx4a65c_grow_92f84_17 : decode cJx4a65c_grow_92f84 17 = .ok (.if_acmp .eq 28, 3) := by decide +kernel
theorem dJx4a65c_grow_92f84_20 : decode cJx4a65c_grow_92f84 20 = .ok (.iload_n 2, 1) := by decide +kernel
theorem dJx4a65c_grow_92f84_21 : decode cJx4a65c_grow_92f84 21 = .ok (.iload_n 1, 1) := by decide +kernel
theorem dJx4a65c_grow_92f84_22 : decode cJx4a65c_grow_92f84 22 = .ok (.iload_n 2, 1) := by decide +kernel
theorem dJx4a65c_grow_92f84_23 : decode cJx4a65c_grow_92f84 23 = .ok (.isub, 1) := by decide +kernel
theorem dJx4a65c_grow_92f84_24 : decode cJx4a65c_grow_92f84 24 = .ok (.iload_n 2, 1) := by decide +kernel
theorem dJx4a65c_grow_92f84_25 : decode cJx4a65c_grow_92f84 25 = .ok (.iconst 1, 1) := by decide +kernel
theorem dJx4a65c_grow_92f84_26 : decode cJx4a65c_grow_92f84 26 = .ok (.ishr, 1) := by decide +kernel
theorem dJx4a65c_grow_92f84_27 : decode cJx4a65c_grow_92f84 27 = .ok (.invokestatic 73, 3) := by decide +kernel
theorem dJx4a65c_grow_92f84_30 : decode cJx4a65c_grow_92f84 30 = .ok (.istore_n 3, 1) := by decide +kernel
theorem dJx4a65c_grow_92f84_31 : decode cJx4a65c_grow_92f84 31 = .ok (.aload_n 0, 1) := by decide +kernel
theorem dJx4a65c_grow_92f84_32 : decode cJx4a65c_grow_92f84 32 = .ok (.aload_n 0, 1) := by decide +kernel
theorem dJx4a65c_grow_92f84_33 : decode cJx4a65c_grow_92f84 33 = .ok (.getfield 9, 3) := by decide +kernel
theorem dJx4a65c_grow_92f84_36 : decode cJx4a65c_grow_92f84 36 = .ok (.iload_n 3, 1) := by decide +kernel
theorem dJx4a65c_grow_92f84_37 : decode cJx4a65c_grow_92f84 37 = .ok (.invokestatic 66, 3) := by decide +kernel
theorem dJx4a65c_grow_92f84_40 : decode cJx4a65c_grow_92f84 40 = .ok (.dup_x1, 1) := by decide +kernel
theorem dJx4a65c_grow_92f84_41 : decode cJx4a65c_grow_92f84 41 = .ok (.putfield 9, 3) := by decide +kernel
theorem dJx4a65c_grow_92f84_44 : decode cJx4a65c_grow_92f84 44 = .ok (.areturn, 1) := by decide +kernel
theorem dJx4a65c_grow_92f84_45 : decode cJx4a65c_grow_92f84 45 = .ok (.aload_n 0, 1) := by decide +kernel
theorem dJx4a65c_grow_92f84_46 : decode cJx4a65c_grow_92f84 46 = .ok (.bipush 10, 2) := by decide +kernel
theorem dJx4a65c_grow_92f84_48 : decode cJx4a65c_grow_92f84 48 = .ok (.iload_n 1, 1) := by decide +kernel
theorem dJx4a65c_grow_92f84_49 : decode cJx4a65c_grow_92f84 49 = .ok (.invokestatic 79, 3) := by decide +kernel
theorem dJx4a65c_grow_92f84_52 : decode cJx4a65c_grow_92f84 52 = .ok (.anewarray 7, 3) := by decide +kernel
theorem dJx4a65c_grow_92f84_55 : decode cJx4a65c_grow_92f84 55 = .ok (.dup_x1, 1) := by decide +kernel
theorem dJx4a65c_grow_92f84_56 : decode cJx4a65c_grow_92f84 56 = .ok (.putfield 9, 3) := by decide +kernel
theorem dJx4a65c_grow_92f84_59 : decode cJx4a65c_grow_92f84 59 = .ok (.areturn, 1) := by decide +kernel
theorem dJx4a65c_grow_d5877_0 : decode cJx4a65c_grow_d5877 0 = .ok (.aload_n 0, 1) := by decide +kernel
theorem dJx4a65c_grow_d5877_1 : decode cJx4a65c_grow_d5877 1 = .ok (.aload_n 0, 1) := by decide +kernel
theorem dJx4a65c_grow_d5877_2 : decode cJx4a65c_grow_d5877 2 = .ok (.getfield 48, 3) := by decide +kernel
theorem dJx4a65c_grow_d5877_5 : decode cJx4a65c_grow_d5877 5 = .ok (.iconst 1, 1) := by decide +kernel
theorem dJx4a65c_grow_d5877_6 : decode cJx4a65c_grow_d5877 6 = .ok (.iadd, 1) := by decide +kernel
theorem dJx4a65c_grow_d5877_7 : decode cJx4a65c_grow_d5877 7 = .ok (.invokevirtual 69, 3) := by decide +kernel
theorem dJx4a65c_grow_d5877_10 : decode cJx4a65c_grow_d5877 10 = .ok (.areturn, 1) := by decide +kernel
theorem dJx4a65c_size_8abf5_0 : decode cJx4a65c_size_8abf5 0 = .ok (.aload_n 0, 1) := by decide +kernel
theorem dJx4a65c_size_8abf5_1 : decode cJx4a65c_size_8abf5 1 = .ok (.getfield 48, 3) := by decide +kernel
theorem dJx4a65c_size_8abf5_4 : decode cJx4a65c_size_8abf5 4 = .ok (.ireturn, 1) := by decide +kernel
theorem dJx4a65c_isEmpty_aae02_0 : decode cJx4a65c_isEmpty_aae02 0 = .ok (.aload_n 0, 1) := by decide +kernel
theorem dJx4a65c_isEmpty_aae02_1 : decode cJx4a65c_isEmpty_aae02 1 = .ok (.getfield 48, 3) := by decide +kernel
theorem dJx4a65c_isEmpty_aae02_4 : decode cJx4a65c_isEmpty_aae02 4 = .ok (.ifCond .ne 7, 3) := by decide +kernel
theorem dJx4a65c_isEmpty_aae02_7 : decode cJx4a65c_isEmpty_aae02 7 = .ok (.iconst 1, 1) := by decide +kernel
theorem dJx4a65c_isEmpty_aae02_8 : decode cJx4a65c_isEmpty_aae02 8 = .ok (.goto 4, 3) := by decide +kernel
theorem dJx4a65c_isEmpty_aae02_11 : decode cJx4a65c_isEmpty_aae02 11 = .ok (.iconst 0, 1) := by decide +kernel
theorem dJx4a65c_isEmpty_aae02_12 : decode cJx4a65c_isEmpty_aae02 12 = .ok (.ireturn, 1) := by decide +kernel
theorem dJx4a65c_elementData_915e3_0 : decode cJx4a65c_elementData_915e3 0 = .ok (.aload_n 0, 1) := by decide +kernel
theorem dJx4a65c_elementData_915e3_1 : decode cJx4a65c_elementData_915e3 1 = .ok (.getfield 9, 3) := by decide +kernel
theorem dJx4a65c_elementData_915e3_4 : decode cJx4a65c_elementData_915e3 4 = .ok (.iload_n 1, 1) := by decide +kernel
theorem dJx4a65c_elementData_915e3_5 : decode cJx4a65c_elementData_915e3 5 = .ok (.aaload, 1) := by decide +kernel
theorem dJx4a65c_elementData_915e3_6 : decode cJx4a65c_elementData_915e3 6 = .ok (.areturn, 1) := by decide +kernel
theorem dJx4a65c_get_915e3_0 : decode cJx4a65c_get_915e3 0 = .ok (.iload_n 1, 1) := by decide +kernel
theorem dJx4a65c_get_915e3_1 : decode cJx4a65c_get_915e3 1 = .ok (.aload_n 0, 1) := by decide +kernel
theorem dJx4a65c_get_915e3_2 : decode cJx4a65c_get_915e3 2 = .ok (.getfield 48, 3) := by decide +kernel
theorem dJx4a65c_get_915e3_5 : decode cJx4a65c_get_915e3 5 = .ok (.invokestatic 118, 3) := by decide +kernel
theorem dJx4a65c_get_915e3_8 : decode cJx4a65c_get_915e3 8 = .ok (.pop, 1) := by decide +kernel
theorem dJx4a65c_get_915e3_9 : decode cJx4a65c_get_915e3 9 = .ok (.aload_n 0, 1) := by decide +kernel
theorem dJx4a65c_get_915e3_10 : decode cJx4a65c_get_915e3 10 = .ok (.iload_n 1, 1) := by decide +kernel
theorem dJx4a65c_get_915e3_11 : decode cJx4a65c_get_915e3 11 = .ok (.invokevirtual 123, 3) := by decide +kernel
theorem dJx4a65c_get_915e3_14 : decode cJx4a65c_get_915e3 14 = .ok (.areturn, 1) := by decide +kernel
theorem dJx4a65c_add_72be8_0 : decode cJx4a65c_add_72be8 0 = .ok (.iload_n 3, 1) := by decide +kernel
theorem dJx4a65c_add_72be8_1 : decode cJx4a65c_add_72be8 1 = .ok (.aload_n 2, 1) := by decide +kernel
theorem dJx4a65c_add_72be8_2 : decode cJx4a65c_add_72be8 2 = .ok (.arraylength, 1) := by decide +kernel
theorem dJx4a65c_add_72be8_3 : decode cJx4a65c_add_72be8 3 = .ok (.if_icmp .ne 8, 3) := by decide +kernel
theorem dJx4a65c_add_72be8_6 : decode cJx4a65c_add_72be8 6 = .ok (.aload_n 0, 1) := by decide +kernel
theorem dJx4a65c_add_72be8_7 : decode cJx4a65c_add_72be8 7 = .ok (.invokevirtual 129, 3) := by decide +kernel
theorem dJx4a65c_add_72be8_10 : decode cJx4a65c_add_72be8 10 = .ok (.astore_n 2, 1) := by decide +kernel
theorem dJx4a65c_add_72be8_11 : decode cJx4a65c_add_72be8 11 = .ok (.aload_n 2, 1) := by decide +kernel
theorem dJx4a65c_add_72be8_12 : decode cJx4a65c_add_72be8 12 = .ok (.iload_n 3, 1) := by decide +kernel
theorem dJx4a65c_add_72be8_13 : decode cJx4a65c_add_72be8 13 = .ok (.aload_n 1, 1) := by decide +kernel
theorem dJx4a65c_add_72be8_14 : decode cJx4a65c_add_72be8 14 = .ok (.aastore, 1) := by decide +kernel
theorem dJx4a65c_add_72be8_15 : decode cJx4a65c_add_72be8 15 = .ok (.aload_n 0, 1) := by decide +kernel
theorem dJx4a65c_add_72be8_16 : decode cJx4a65c_add_72be8 16 = .ok (.iload_n 3, 1) := by decide +kernel
theorem dJx4a65c_add_72be8_17 : decode cJx4a65c_add_72be8 17 = .ok (.iconst 1, 1) := by decide +kernel
theorem dJx4a65c_add_72be8_18 : decode cJx4a65c_add_72be8 18 = .ok (.iadd, 1) := by decide +kernel
theorem dJx4a65c_add_72be8_19 : decode cJx4a65c_add_72be8 19 = .ok (.putfield 48, 3) := by decide +kernel
theorem dJx4a65c_add_72be8_22 : decode cJx4a65c_add_72be8 22 = .ok (.return_, 1) := by decide +kernel
theorem dJx4a65c_add_9ea2d_0 : decode cJx4a65c_add_9ea2d 0 = .ok (.aload_n 0, 1) := by decide +kernel
theorem dJx4a65c_add_9ea2d_1 : decode cJx4a65c_add_9ea2d 1 = .ok (.dup, 1) := by decide +kernel
theorem dJx4a65c_add_9ea2d_2 : decode cJx4a65c_add_9ea2d 2 = .ok (.getfield 63, 3) := by decide +kernel
theorem dJx4a65c_add_9ea2d_5 : decode cJx4a65c_add_9ea2d 5 = .ok (.iconst 1, 1) := by decide +kernel
theorem dJx4a65c_add_9ea2d_6 : decode cJx4a65c_add_9ea2d 6 = .ok (.iadd, 1) := by decide +kernel
theorem dJx4a65c_add_9ea2d_7 : decode cJx4a65c_add_9ea2d 7 = .ok (.putfield 63, 3) := by decide +kernel
theorem dJx4a65c_add_9ea2d_10 : decode cJx4a65c_add_9ea2d 10 = .ok (.aload_n 0, 1) := by decide +kernel
theorem dJx4a65c_add_9ea2d_11 : decode cJx4a65c_add_9ea2d 11 = .ok (.aload_n 1, 1) := by decide +kernel
theorem dJx4a65c_add_9ea2d_12 : decode cJx4a65c_add_9ea2d 12 = .ok (.aload_n 0, 1) := by decide +kernel
theorem dJx4a65c_add_9ea2d_13 : decode cJx4a65c_add_9ea2d 13 = .ok (.getfield 9, 3) := by decide +kernel
theorem dJx4a65c_add_9ea2d_16 : decode cJx4a65c_add_9ea2d 16 = .ok (.aload_n 0, 1) := by decide +kernel
theorem dJx4a65c_add_9ea2d_17 : decode cJx4a65c_add_9ea2d 17 = .ok (.getfield 48, 3) := by decide +kernel
theorem dJx4a65c_add_9ea2d_20 : decode cJx4a65c_add_9ea2d 20 = .ok (.invokevirtual 131, 3) := by decide +kernel
theorem dJx4a65c_add_9ea2d_23 : decode cJx4a65c_add_9ea2d 23 = .ok (.iconst 1, 1) := by decide +kernel
theorem dJx4a65c_add_9ea2d_24 : decode cJx4a65c_add_9ea2d 24 = .ok (.ireturn, 1) := by decide +kernel
theorem dJ7_fill_53178_0 : decode cJ7_fill_53178 0 = .ok (.iconst 0, 1) := by decide +kernel
theorem dJ7_fill_53178_1 : decode cJ7_fill_53178 1 = .ok (.istore_n 2, 1) := by decide +kernel
theorem dJ7_fill_53178_2 : decode cJ7_fill_53178 2 = .ok (.aload_n 0, 1) := by decide +kernel
theorem dJ7_fill_53178_3 : decode cJ7_fill_53178 3 = .ok (.arraylength, 1) := by decide +kernel
theorem dJ7_fill_53178_4 : decode cJ7_fill_53178 4 = .ok (.istore_n 3, 1) := by decide +kernel
theorem dJ7_fill_53178_5 : decode cJ7_fill_53178 5 = .ok (.iload_n 2, 1) := by decide +kernel
theorem dJ7_fill_53178_6 : decode cJ7_fill_53178 6 = .ok (.iload_n 3, 1) := by decide +kernel
theorem dJ7_fill_53178_7 : decode cJ7_fill_53178 7 = .ok (.if_icmp .ge 13, 3) := by decide +kernel
theorem dJ7_fill_53178_10 : decode cJ7_fill_53178 10 = .ok (.aload_n 0, 1) := by decide +kernel
theorem dJ7_fill_53178_11 : decode cJ7_fill_53178 11 = .ok (.iload_n 2, 1) := by decide +kernel
theorem dJ7_fill_53178_12 : decode cJ7_fill_53178 12 = .ok (.iload_n 1, 1) := by decide +kernel
theorem dJ7_fill_53178_13 : decode cJ7_fill_53178 13 = .ok (.iastore, 1) := by decide +kernel
theorem dJ7_fill_53178_14 : decode cJ7_fill_53178 14 = .ok (.iinc 2 1, 3) := by decide +kernel
theorem dJ7_fill_53178_17 : decode cJ7_fill_53178 17 = .ok (.goto (-12), 3) := by decide +kernel
theorem dJ7_fill_53178_20 : decode cJ7_fill_53178 20 = .ok (.return_, 1) := by decide +kernel
theorem dJ7_copyOf_1904c_0 : decode cJ7_copyOf_1904c 0 = .ok (.aload_n 0, 1) := by decide +kernel
theorem dJ7_copyOf_1904c_1 : decode cJ7_copyOf_1904c 1 = .ok (.iload_n 1, 1) := by decide +kernel
theorem dJ7_copyOf_1904c_2 : decode cJ7_copyOf_1904c 2 = .ok (.aload_n 0, 1) := by decide +kernel
theorem dJ7_copyOf_1904c_3 : decode cJ7_copyOf_1904c 3 = .ok (.invokevirtual 86, 3) := by decide +kernel
theorem dJ7_copyOf_1904c_6 : decode cJ7_copyOf_1904c 6 = .ok (.invokestatic 300, 3) := by decide +kernel
theorem dJ7_copyOf_1904c_9 : decode cJ7_copyOf_1904c 9 = .ok (.areturn, 1) := by decide +kernel
theorem dJ7_copyOf_6403c_0 : decode cJ7_copyOf_6403c 0 = .ok (.aload_n 2, 1) := by decide +kernel
theorem dJ7_copyOf_6403c_1 : decode cJ7_copyOf_6403c 1 = .ok (.ldc 110, 2) := by decide +kernel
theorem dJ7_copyOf_6403c_3 : decode cJ7_copyOf_6403c 3 = .ok (.if_acmp .ne 10, 3) := by decide +kernel
theorem dJ7_copyOf_6403c_6 : decode cJ7_copyOf_6403c 6 = .ok (.iload_n 1, 1) := by decide +kernel
theorem dJ7_copyOf_6403c_7 : decode cJ7_copyOf_6403c 7 = .ok (.anewarray 2, 3) := by decide +kernel
theorem dJ7_copyOf_6403c_10 : decode cJ7_copyOf_6403c 10 = .ok (.goto 14, 3) := by decide +kernel
theorem dJ7_copyOf_6403c_13 : decode cJ7_copyOf_6403c 13 = .ok (.aload_n 2, 1) := by decide +kernel
theorem dJ7_copyOf_6403c_14 : decode cJ7_copyOf_6403c 14 = .ok (.invokevirtual 90, 3) := by decide +kernel
theorem dJ7_copyOf_6403c_17 : decode cJ7_copyOf_6403c 17 = .ok (.iload_n 1, 1) := by decide +kernel
theorem dJ7_copyOf_6403c_18 : decode cJ7_copyOf_6403c 18 = .ok (.invokestatic 95, 3) := by decide +kernel
theorem dJ7_copyOf_6403c_21 : decode cJ7_copyOf_6403c 21 = .ok (.checkcast 110, 3) := by decide +kernel
theorem dJ7_copyOf_6403c_24 : decode cJ7_copyOf_6403c 24 = .ok (.astore_n 3, 1) := by decide +kernel
theorem dJ7_copyOf_6403c_25 : decode cJ7_copyOf_6403c 25 = .ok (.aload_n 0, 1) := by decide +kernel
theorem dJ7_copyOf_6403c_26 : decode cJ7_copyOf_6403c 26 = .ok (.iconst 0, 1) := by decide +kernel
theorem dJ7_copyOf_6403c_27 : decode cJ7_copyOf_6403c 27 = .ok (.aload_n 3, 1) := by decide +kernel
theorem dJ7_copyOf_6403c_28 : decode cJ7_copyOf_6403c 28 = .ok (.iconst 0, 1) := by decide +kernel
theorem dJ7_copyOf_6403c_29 : decode cJ7_copyOf_6403c 29 = .ok (.aload_n 0, 1) := by decide +kernel
theorem dJ7_copyOf_6403c_30 : decode cJ7_copyOf_6403c 30 = .ok (.arraylength, 1) := by decide +kernel
theorem dJ7_copyOf_6403c_31 : decode cJ7_copyOf_6403c 31 = .ok (.iload_n 1, 1) := by decide +kernel
theorem dJ7_copyOf_6403c_32 : decode cJ7_copyOf_6403c 32 = .ok (.invokestatic 304, 3) := by decide +kernel
theorem dJ7_copyOf_6403c_35 : decode cJ7_copyOf_6403c 35 = .ok (.invokestatic 150, 3) := by decide +kernel
theorem dJ7_copyOf_6403c_38 : decode cJ7_copyOf_6403c 38 = .ok (.aload_n 3, 1) := by decide +kernel
theorem dJ7_copyOf_6403c_39 : decode cJ7_copyOf_6403c 39 = .ok (.areturn, 1) := by decide +kernel
theorem dJ15_checkIndex_7cf53_0 : decode cJ15_checkIndex_7cf53 0 = .ok (.iload_n 0, 1) := by decide +kernel
theorem dJ15_checkIndex_7cf53_1 : decode cJ15_checkIndex_7cf53 1 = .ok (.iload_n 1, 1) := by decide +kernel
theorem dJ15_checkIndex_7cf53_2 : decode cJ15_checkIndex_7cf53 2 = .ok (.aconst_null, 1) := by decide +kernel
theorem dJ15_checkIndex_7cf53_3 : decode cJ15_checkIndex_7cf53 3 = .ok (.invokestatic 105, 3) := by decide +kernel
theorem dJ15_checkIndex_7cf53_6 : decode cJ15_checkIndex_7cf53 6 = .ok (.ireturn, 1) := by decide +kernel
theorem dJ8_newLength_cabcc_0 : decode cJ8_newLength_cabcc 0 = .ok (.iload_n 0, 1) := by decide +kernel
theorem dJ8_newLength_cabcc_1 : decode cJ8_newLength_cabcc 1 = .ok (.iload_n 1, 1) := by decide +kernel
theorem dJ8_newLength_cabcc_2 : decode cJ8_newLength_cabcc 2 = .ok (.iload_n 2, 1) := by decide +kernel
theorem dJ8_newLength_cabcc_3 : decode cJ8_newLength_cabcc 3 = .ok (.invokestatic 194, 3) := by decide +kernel
theorem dJ8_newLength_cabcc_6 : decode cJ8_newLength_cabcc 6 = .ok (.iadd, 1) := by decide +kernel
theorem dJ8_newLength_cabcc_7 : decode cJ8_newLength_cabcc 7 = .ok (.istore_n 3, 1) := by decide +kernel
theorem dJ8_newLength_cabcc_8 : decode cJ8_newLength_cabcc 8 = .ok (.iconst 0, 1) := by decide +kernel
theorem dJ8_newLength_cabcc_9 : decode cJ8_newLength_cabcc 9 = .ok (.iload_n 3, 1) := by decide +kernel
theorem dJ8_newLength_cabcc_10 : decode cJ8_newLength_cabcc 10 = .ok (.if_icmp .ge 11, 3) := by decide +kernel
theorem dJ8_newLength_cabcc_13 : decode cJ8_newLength_cabcc 13 = .ok (.iload_n 3, 1) := by decide +kernel
theorem dJ8_newLength_cabcc_14 : decode cJ8_newLength_cabcc 14 = .ok (.ldc 200, 2) := by decide +kernel
theorem dJ8_newLength_cabcc_16 : decode cJ8_newLength_cabcc 16 = .ok (.if_icmp .gt 5, 3) := by decide +kernel
theorem dJ8_newLength_cabcc_19 : decode cJ8_newLength_cabcc 19 = .ok (.iload_n 3, 1) := by decide +kernel
theorem dJ8_newLength_cabcc_20 : decode cJ8_newLength_cabcc 20 = .ok (.ireturn, 1) := by decide +kernel
theorem dJ8_newLength_cabcc_21 : decode cJ8_newLength_cabcc 21 = .ok (.iload_n 0, 1) := by decide +kernel
theorem dJ8_newLength_cabcc_22 : decode cJ8_newLength_cabcc 22 = .ok (.iload_n 1, 1) := by decide +kernel
theorem dJ8_newLength_cabcc_23 : decode cJ8_newLength_cabcc 23 = .ok (.invokestatic 201, 3) := by decide +kernel
theorem dJ8_newLength_cabcc_26 : decode cJ8_newLength_cabcc 26 = .ok (.ireturn, 1) := by decide +kernel
theorem dJ8_hugeLength_7cf53_0 : decode cJ8_hugeLength_7cf53 0 = .ok (.iload_n 0, 1) := by decide +kernel
theorem dJ8_hugeLength_7cf53_1 : decode cJ8_hugeLength_7cf53 1 = .ok (.iload_n 1, 1) := by decide +kernel
theorem dJ8_hugeLength_7cf53_2 : decode cJ8_hugeLength_7cf53 2 = .ok (.iadd, 1) := by decide +kernel
theorem dJ8_hugeLength_7cf53_3 : decode cJ8_hugeLength_7cf53 3 = .ok (.istore_n 2, 1) := by decide +kernel
theorem dJ8_hugeLength_7cf53_4 : decode cJ8_hugeLength_7cf53 4 = .ok (.iload_n 2, 1) := by decide +kernel
theorem dJ8_hugeLength_7cf53_5 : decode cJ8_hugeLength_7cf53 5 = .ok (.ifCond .ge 44, 3) := by decide +kernel
theorem dJ8_hugeLength_7cf53_8 : decode cJ8_hugeLength_7cf53 8 = .ok (.new 204, 3) := by decide +kernel
theorem dJ8_hugeLength_7cf53_11 : decode cJ8_hugeLength_7cf53 11 = .ok (.dup, 1) := by decide +kernel
theorem dJ8_hugeLength_7cf53_12 : decode cJ8_hugeLength_7cf53 12 = .ok (.new 89, 3) := by decide +kernel
theorem dJ8_hugeLength_7cf53_15 : decode cJ8_hugeLength_7cf53 15 = .ok (.dup, 1) := by decide +kernel
theorem dJ8_hugeLength_7cf53_16 : decode cJ8_hugeLength_7cf53 16 = .ok (.invokespecial 91, 3) := by decide +kernel
theorem dJ8_hugeLength_7cf53_19 : decode cJ8_hugeLength_7cf53 19 = .ok (.ldc 206, 2) := by decide +kernel
theorem dJ8_hugeLength_7cf53_21 : decode cJ8_hugeLength_7cf53 21 = .ok (.invokevirtual 94, 3) := by decide +kernel
theorem dJ8_hugeLength_7cf53_24 : decode cJ8_hugeLength_7cf53 24 = .ok (.iload_n 0, 1) := by decide +kernel
theorem dJ8_hugeLength_7cf53_25 : decode cJ8_hugeLength_7cf53 25 = .ok (.invokevirtual 98, 3) := by decide +kernel
theorem dJ8_hugeLength_7cf53_28 : decode cJ8_hugeLength_7cf53 28 = .ok (.ldc 208, 2) := by decide +kernel
theorem dJ8_hugeLength_7cf53_30 : decode cJ8_hugeLength_7cf53 30 = .ok (.invokevirtual 94, 3) := by decide +kernel
theorem dJ8_hugeLength_7cf53_33 : decode cJ8_hugeLength_7cf53 33 = .ok (.iload_n 1, 1) := by decide +kernel
theorem dJ8_hugeLength_7cf53_34 : decode cJ8_hugeLength_7cf53 34 = .ok (.invokevirtual 98, 3) := by decide +kernel
theorem dJ8_hugeLength_7cf53_37 : decode cJ8_hugeLength_7cf53 37 = .ok (.ldc 210, 2) := by decide +kernel
theorem dJ8_hugeLength_7cf53_39 : decode cJ8_hugeLength_7cf53 39 = .ok (.invokevirtual 94, 3) := by decide +kernel
theorem dJ8_hugeLength_7cf53_42 : decode cJ8_hugeLength_7cf53 42 = .ok (.invokevirtual 101, 3) := by decide +kernel
theorem dJ8_hugeLength_7cf53_45 : decode cJ8_hugeLength_7cf53 45 = .ok (.invokespecial 212, 3) := by decide +kernel
theorem dJ8_hugeLength_7cf53_48 : decode cJ8_hugeLength_7cf53 48 = .ok (.athrow, 1) := by decide +kernel
theorem dJ8_hugeLength_7cf53_49 : decode cJ8_hugeLength_7cf53 49 = .ok (.iload_n 2, 1) := by decide +kernel
theorem dJ8_hugeLength_7cf53_50 : decode cJ8_hugeLength_7cf53 50 = .ok (.ldc 200, 2) := by decide +kernel
theorem dJ8_hugeLength_7cf53_52 : decode cJ8_hugeLength_7cf53 52 = .ok (.if_icmp .gt 6, 3) := by decide +kernel
theorem dJ8_hugeLength_7cf53_55 : decode cJ8_hugeLength_7cf53 55 = .ok (.ldc 200, 2) := by decide +kernel
theorem dJ8_hugeLength_7cf53_57 : decode cJ8_hugeLength_7cf53 57 = .ok (.ireturn, 1) := by decide +kernel
theorem dJ8_hugeLength_7cf53_58 : decode cJ8_hugeLength_7cf53 58 = .ok (.iload_n 2, 1) := by decide +kernel
theorem dJ8_hugeLength_7cf53_59 : decode cJ8_hugeLength_7cf53 59 = .ok (.ireturn, 1) := by decide +kernel
theorem dJ3_checkIndex_8e157_0 : decode cJ3_checkIndex_8e157 0 = .ok (.iload_n 0, 1) := by decide +kernel
theorem dJ3_checkIndex_8e157_1 : decode cJ3_checkIndex_8e157 1 = .ok (.ifCond .lt 8, 3) := by decide +kernel
theorem dJ3_checkIndex_8e157_4 : decode cJ3_checkIndex_8e157 4 = .ok (.iload_n 0, 1) := by decide +kernel
theorem dJ3_checkIndex_8e157_5 : decode cJ3_checkIndex_8e157 5 = .ok (.iload_n 1, 1) := by decide +kernel
theorem dJ3_checkIndex_8e157_6 : decode cJ3_checkIndex_8e157 6 = .ok (.if_icmp .lt 10, 3) := by decide +kernel
theorem dJ3_checkIndex_8e157_9 : decode cJ3_checkIndex_8e157 9 = .ok (.aload_n 2, 1) := by decide +kernel
theorem dJ3_checkIndex_8e157_10 : decode cJ3_checkIndex_8e157 10 = .ok (.iload_n 0, 1) := by decide +kernel
theorem dJ3_checkIndex_8e157_11 : decode cJ3_checkIndex_8e157 11 = .ok (.iload_n 1, 1) := by decide +kernel
theorem dJ3_checkIndex_8e157_12 : decode cJ3_checkIndex_8e157 12 = .ok (.invokestatic 95, 3) := by decide +kernel
theorem dJ3_checkIndex_8e157_15 : decode cJ3_checkIndex_8e157 15 = .ok (.athrow, 1) := by decide +kernel
theorem dJ3_checkIndex_8e157_16 : decode cJ3_checkIndex_8e157 16 = .ok (.iload_n 0, 1) := by decide +kernel
theorem dJ3_checkIndex_8e157_17 : decode cJ3_checkIndex_8e157 17 = .ok (.ireturn, 1) := by decide +kernel
theorem dL_fount_0 : decode cL_fount 0 = .ok (.aload_n 2, 1) := by decide +kernel
theorem dL_fount_1 : decode cL_fount 1 = .ok (.iconst 0, 1) := by decide +kernel
theorem dL_fount_2 : decode cL_fount 2 = .ok (.aload_n 0, 1) := by decide +kernel
theorem dL_fount_3 : decode cL_fount 3 = .ok (.iload_n 1, 1) := by decide +kernel
theorem dL_fount_4 : decode cL_fount 4 = .ok (.invokevirtual 7, 3) := by decide +kernel
theorem dL_fount_7 : decode cL_fount 7 = .ok (.i2l, 1) := by decide +kernel
theorem dL_fount_8 : decode cL_fount 8 = .ok (.lastore, 1) := by decide +kernel
theorem dL_fount_9 : decode cL_fount 9 = .ok (.goto 9, 3) := by decide +kernel
theorem dL_fount_12 : decode cL_fount 12 = .ok (.astore_n 3, 1) := by decide +kernel
theorem dL_fount_13 : decode cL_fount 13 = .ok (.iconst 1, 1) := by decide +kernel
theorem dL_fount_14 : decode cL_fount 14 = .ok (.ireturn, 1) := by decide +kernel
theorem dL_fount_15 : decode cL_fount 15 = .ok (.astore_n 3, 1) := by decide +kernel
theorem dL_fount_16 : decode cL_fount 16 = .ok (.iconst 2, 1) := by decide +kernel
theorem dL_fount_17 : decode cL_fount 17 = .ok (.ireturn, 1) := by decide +kernel
theorem dL_fount_18 : decode cL_fount 18 = .ok (.iconst 0, 1) := by decide +kernel
theorem dL_fount_19 : decode cL_fount 19 = .ok (.ireturn, 1) := by decide +kernel
theorem dL_buy_0 : decode cL_buy 0 = .ok (.aload 4, 2) := by decide +kernel
theorem dL_buy_2 : decode cL_buy 2 = .ok (.iconst 0, 1) := by decide +kernel
theorem dL_buy_3 : decode cL_buy 3 = .ok (.aload_n 0, 1) := by decide +kernel
theorem dL_buy_4 : decode cL_buy 4 = .ok (.iload_n 1, 1) := by decide +kernel
theorem dL_buy_5 : decode cL_buy 5 = .ok (.iload_n 2, 1) := by decide +kernel
theorem dL_buy_6 : decode cL_buy 6 = .ok (.iload_n 3, 1) := by decide +kernel
theorem dL_buy_7 : decode cL_buy 7 = .ok (.invokevirtual 17, 3) := by decide +kernel
theorem dL_buy_10 : decode cL_buy 10 = .ok (.i2l, 1) := by decide +kernel
theorem dL_buy_11 : decode cL_buy 11 = .ok (.lastore, 1) := by decide +kernel
theorem dL_buy_12 : decode cL_buy 12 = .ok (.goto 15, 3) := by decide +kernel
theorem dL_buy_15 : decode cL_buy 15 = .ok (.astore 5, 2) := by decide +kernel
theorem dL_buy_17 : decode cL_buy 17 = .ok (.iconst 1, 1) := by decide +kernel
theorem dL_buy_18 : decode cL_buy 18 = .ok (.ireturn, 1) := by decide +kernel
theorem dL_buy_19 : decode cL_buy 19 = .ok (.astore 5, 2) := by decide +kernel
theorem dL_buy_21 : decode cL_buy 21 = .ok (.iconst 2, 1) := by decide +kernel
theorem dL_buy_22 : decode cL_buy 22 = .ok (.ireturn, 1) := by decide +kernel
theorem dL_buy_23 : decode cL_buy 23 = .ok (.astore 5, 2) := by decide +kernel
theorem dL_buy_25 : decode cL_buy 25 = .ok (.iconst 3, 1) := by decide +kernel
theorem dL_buy_26 : decode cL_buy 26 = .ok (.ireturn, 1) := by decide +kernel
theorem dL_buy_27 : decode cL_buy 27 = .ok (.iconst 0, 1) := by decide +kernel
theorem dL_buy_28 : decode cL_buy 28 = .ok (.ireturn, 1) := by decide +kernel
theorem dL_buyAll_0 : decode cL_buyAll 0 = .ok (.aload_n 3, 1) := by decide +kernel
theorem dL_buyAll_1 : decode cL_buyAll 1 = .ok (.iconst 0, 1) := by decide +kernel
theorem dL_buyAll_2 : decode cL_buyAll 2 = .ok (.aload_n 0, 1) := by decide +kernel
theorem dL_buyAll_3 : decode cL_buyAll 3 = .ok (.iload_n 1, 1) := by decide +kernel
theorem dL_buyAll_4 : decode cL_buyAll 4 = .ok (.iload_n 2, 1) := by decide +kernel
theorem dL_buyAll_5 : decode cL_buyAll 5 = .ok (.invokevirtual 23, 3) := by decide +kernel
theorem dL_buyAll_8 : decode cL_buyAll 8 = .ok (.i2l, 1) := by decide +kernel
theorem dL_buyAll_9 : decode cL_buyAll 9 = .ok (.lastore, 1) := by decide +kernel
theorem dL_buyAll_10 : decode cL_buyAll 10 = .ok (.goto 11, 3) := by decide +kernel
theorem dL_buyAll_13 : decode cL_buyAll 13 = .ok (.astore 4, 2) := by decide +kernel
theorem dL_buyAll_15 : decode cL_buyAll 15 = .ok (.iconst 1, 1) := by decide +kernel
theorem dL_buyAll_16 : decode cL_buyAll 16 = .ok (.ireturn, 1) := by decide +kernel
theorem dL_buyAll_17 : decode cL_buyAll 17 = .ok (.astore 4, 2) := by decide +kernel
theorem dL_buyAll_19 : decode cL_buyAll 19 = .ok (.iconst 2, 1) := by decide +kernel
theorem dL_buyAll_20 : decode cL_buyAll 20 = .ok (.ireturn, 1) := by decide +kernel
theorem dL_buyAll_21 : decode cL_buyAll 21 = .ok (.iconst 0, 1) := by decide +kernel
theorem dL_buyAll_22 : decode cL_buyAll 22 = .ok (.ireturn, 1) := by decide +kernel
theorem dL_setOther_0 : decode cL_setOther 0 = .ok (.aload_n 3, 1) := by decide +kernel
theorem dL_setOther_1 : decode cL_setOther 1 = .ok (.iconst 0, 1) := by decide +kernel
theorem dL_setOther_2 : decode cL_setOther 2 = .ok (.aload_n 0, 1) := by decide +kernel
theorem dL_setOther_3 : decode cL_setOther 3 = .ok (.iload_n 1, 1) := by decide +kernel
theorem dL_setOther_4 : decode cL_setOther 4 = .ok (.iload_n 2, 1) := by decide +kernel
theorem dL_setOther_5 : decode cL_setOther 5 = .ok (.invokevirtual 27, 3) := by decide +kernel
theorem dL_setOther_8 : decode cL_setOther 8 = .ok (.i2l, 1) := by decide +kernel
theorem dL_setOther_9 : decode cL_setOther 9 = .ok (.lastore, 1) := by decide +kernel
theorem dL_setOther_10 : decode cL_setOther 10 = .ok (.goto 11, 3) := by decide +kernel
theorem dL_setOther_13 : decode cL_setOther 13 = .ok (.astore 4, 2) := by decide +kernel
theorem dL_setOther_15 : decode cL_setOther 15 = .ok (.iconst 1, 1) := by decide +kernel
theorem dL_setOther_16 : decode cL_setOther 16 = .ok (.ireturn, 1) := by decide +kernel
theorem dL_setOther_17 : decode cL_setOther 17 = .ok (.astore 4, 2) := by decide +kernel
theorem dL_setOther_19 : decode cL_setOther 19 = .ok (.iconst 2, 1) := by decide +kernel
theorem dL_setOther_20 : decode cL_setOther 20 = .ok (.ireturn, 1) := by decide +kernel
theorem dL_setOther_21 : decode cL_setOther 21 = .ok (.iconst 0, 1) := by decide +kernel
theorem dL_setOther_22 : decode cL_setOther 22 = .ok (.ireturn, 1) := by decide +kernel
theorem dL_setTown_0 : decode cL_setTown 0 = .ok (.aload 4, 2) := by decide +kernel
theorem dL_setTown_2 : decode cL_setTown 2 = .ok (.iconst 0, 1) := by decide +kernel
theorem dL_setTown_3 : decode cL_setTown 3 = .ok (.aload_n 0, 1) := by decide +kernel
theorem dL_setTown_4 : decode cL_setTown 4 = .ok (.iload_n 1, 1) := by decide +kernel
theorem dL_setTown_5 : decode cL_setTown 5 = .ok (.iload_n 2, 1) := by decide +kernel
theorem dL_setTown_6 : decode cL_setTown 6 = .ok (.iload_n 3, 1) := by decide +kernel
theorem dL_setTown_7 : decode cL_setTown 7 = .ok (.invokevirtual 30, 3) := by decide +kernel
theorem dL_setTown_10 : decode cL_setTown 10 = .ok (.i2l, 1) := by decide +kernel
theorem dL_setTown_11 : decode cL_setTown 11 = .ok (.lastore, 1) := by decide +kernel
theorem dL_setTown_12 : decode cL_setTown 12 = .ok (.goto 11, 3) := by decide +kernel
theorem dL_setTown_15 : decode cL_setTown 15 = .ok (.astore 5, 2) := by decide +kernel
theorem dL_setTown_17 : decode cL_setTown 17 = .ok (.iconst 1, 1) := by decide +kernel
theorem dL_setTown_18 : decode cL_setTown 18 = .ok (.ireturn, 1) := by decide +kernel
theorem dL_setTown_19 : decode cL_setTown 19 = .ok (.astore 5, 2) := by decide +kernel
theorem dL_setTown_21 : decode cL_setTown 21 = .ok (.iconst 2, 1) := by decide +kernel
theorem dL_setTown_22 : decode cL_setTown 22 = .ok (.ireturn, 1) := by decide +kernel
theorem dL_setTown_23 : decode cL_setTown 23 = .ok (.iconst 0, 1) := by decide +kernel
theorem dL_setTown_24 : decode cL_setTown 24 = .ok (.ireturn, 1) := by decide +kernel
theorem dL_poster_0 : decode cL_poster 0 = .ok (.aload_n 3, 1) := by decide +kernel
theorem dL_poster_1 : decode cL_poster 1 = .ok (.iconst 0, 1) := by decide +kernel
theorem dL_poster_2 : decode cL_poster 2 = .ok (.aload_n 0, 1) := by decide +kernel
theorem dL_poster_3 : decode cL_poster 3 = .ok (.iload_n 1, 1) := by decide +kernel
theorem dL_poster_4 : decode cL_poster 4 = .ok (.iload_n 2, 1) := by decide +kernel
theorem dL_poster_5 : decode cL_poster 5 = .ok (.invokevirtual 33, 3) := by decide +kernel
theorem dL_poster_8 : decode cL_poster 8 = .ok (.i2l, 1) := by decide +kernel
theorem dL_poster_9 : decode cL_poster 9 = .ok (.lastore, 1) := by decide +kernel
theorem dL_poster_10 : decode cL_poster 10 = .ok (.goto 15, 3) := by decide +kernel
theorem dL_poster_13 : decode cL_poster 13 = .ok (.astore 4, 2) := by decide +kernel
theorem dL_poster_15 : decode cL_poster 15 = .ok (.iconst 1, 1) := by decide +kernel
theorem dL_poster_16 : decode cL_poster 16 = .ok (.ireturn, 1) := by decide +kernel
theorem dL_poster_17 : decode cL_poster 17 = .ok (.astore 4, 2) := by decide +kernel
theorem dL_poster_19 : decode cL_poster 19 = .ok (.iconst 2, 1) := by decide +kernel
theorem dL_poster_20 : decode cL_poster 20 = .ok (.ireturn, 1) := by decide +kernel
theorem dL_poster_21 : decode cL_poster 21 = .ok (.astore 4, 2) := by decide +kernel
theorem dL_poster_23 : decode cL_poster 23 = .ok (.iconst 3, 1) := by decide +kernel
theorem dL_poster_24 : decode cL_poster 24 = .ok (.ireturn, 1) := by decide +kernel
theorem dL_poster_25 : decode cL_poster 25 = .ok (.iconst 0, 1) := by decide +kernel
theorem dL_poster_26 : decode cL_poster 26 = .ok (.ireturn, 1) := by decide +kernel
theorem dL_line_0 : decode cL_line 0 = .ok (.aload_n 3, 1) := by decide +kernel
theorem dL_line_1 : decode cL_line 1 = .ok (.iconst 0, 1) := by decide +kernel
theorem dL_line_2 : decode cL_line 2 = .ok (.aload_n 0, 1) := by decide +kernel
theorem dL_line_3 : decode cL_line 3 = .ok (.iload_n 1, 1) := by decide +kernel
theorem dL_line_4 : decode cL_line 4 = .ok (.iload_n 2, 1) := by decide +kernel
theorem dL_line_5 : decode cL_line 5 = .ok (.invokevirtual 36, 3) := by decide +kernel
theorem dL_line_8 : decode cL_line 8 = .ok (.i2l, 1) := by decide +kernel
theorem dL_line_9 : decode cL_line 9 = .ok (.lastore, 1) := by decide +kernel
theorem dL_line_10 : decode cL_line 10 = .ok (.goto 15, 3) := by decide +kernel
theorem dL_line_13 : decode cL_line 13 = .ok (.astore 4, 2) := by decide +kernel
theorem dL_line_15 : decode cL_line 15 = .ok (.iconst 1, 1) := by decide +kernel
theorem dL_line_16 : decode cL_line 16 = .ok (.ireturn, 1) := by decide +kernel
theorem dL_line_17 : decode cL_line 17 = .ok (.astore 4, 2) := by decide +kernel
theorem dL_line_19 : decode cL_line 19 = .ok (.iconst 2, 1) := by decide +kernel
theorem dL_line_20 : decode cL_line 20 = .ok (.ireturn, 1) := by decide +kernel
theorem dL_line_21 : decode cL_line 21 = .ok (.astore 4, 2) := by decide +kernel
theorem dL_line_23 : decode cL_line 23 = .ok (.iconst 3, 1) := by decide +kernel
theorem dL_line_24 : decode cL_line 24 = .ok (.ireturn, 1) := by decide +kernel
theorem dL_line_25 : decode cL_line 25 = .ok (.iconst 0, 1) := by decide +kernel
theorem dL_line_26 : decode cL_line 26 = .ok (.ireturn, 1) := by decide +kernel
theorem dL_set_0 : decode cL_set 0 = .ok (.aload_n 2, 1) := by decide +kernel
theorem dL_set_1 : decode cL_set 1 = .ok (.iconst 0, 1) := by decide +kernel
theorem dL_set_2 : decode cL_set 2 = .ok (.aload_n 0, 1) := by decide +kernel
theorem dL_set_3 : decode cL_set 3 = .ok (.iload_n 1, 1) := by decide +kernel
theorem dL_set_4 : decode cL_set 4 = .ok (.invokevirtual 39, 3) := by decide +kernel
theorem dL_set_7 : decode cL_set 7 = .ok (.i2l, 1) := by decide +kernel
theorem dL_set_8 : decode cL_set 8 = .ok (.lastore, 1) := by decide +kernel
theorem dL_set_9 : decode cL_set 9 = .ok (.goto 9, 3) := by decide +kernel
theorem dL_set_12 : decode cL_set 12 = .ok (.astore_n 3, 1) := by decide +kernel
theorem dL_set_13 : decode cL_set 13 = .ok (.iconst 1, 1) := by decide +kernel
theorem dL_set_14 : decode cL_set 14 = .ok (.ireturn, 1) := by decide +kernel
theorem dL_set_15 : decode cL_set 15 = .ok (.astore_n 3, 1) := by decide +kernel
theorem dL_set_16 : decode cL_set 16 = .ok (.iconst 2, 1) := by decide +kernel
theorem dL_set_17 : decode cL_set 17 = .ok (.ireturn, 1) := by decide +kernel
theorem dL_set_18 : decode cL_set 18 = .ok (.iconst 0, 1) := by decide +kernel
theorem dL_set_19 : decode cL_set 19 = .ok (.ireturn, 1) := by decide +kernel
theorem dL_print_0 : decode cL_print 0 = .ok (.aload_n 3, 1) := by decide +kernel
theorem dL_print_1 : decode cL_print 1 = .ok (.iconst 0, 1) := by decide +kernel
theorem dL_print_2 : decode cL_print 2 = .ok (.aload_n 0, 1) := by decide +kernel
theorem dL_print_3 : decode cL_print 3 = .ok (.iload_n 1, 1) := by decide +kernel
theorem dL_print_4 : decode cL_print 4 = .ok (.iload_n 2, 1) := by decide +kernel
theorem dL_print_5 : decode cL_print 5 = .ok (.invokevirtual 42, 3) := by decide +kernel
theorem dL_print_8 : decode cL_print 8 = .ok (.i2l, 1) := by decide +kernel
theorem dL_print_9 : decode cL_print 9 = .ok (.lastore, 1) := by decide +kernel
theorem dL_print_10 : decode cL_print 10 = .ok (.goto 15, 3) := by decide +kernel
theorem dL_print_13 : decode cL_print 13 = .ok (.astore 4, 2) := by decide +kernel
theorem dL_print_15 : decode cL_print 15 = .ok (.iconst 1, 1) := by decide +kernel
theorem dL_print_16 : decode cL_print 16 = .ok (.ireturn, 1) := by decide +kernel
theorem dL_print_17 : decode cL_print 17 = .ok (.astore 4, 2) := by decide +kernel
theorem dL_print_19 : decode cL_print 19 = .ok (.iconst 2, 1) := by decide +kernel
theorem dL_print_20 : decode cL_print 20 = .ok (.ireturn, 1) := by decide +kernel
theorem dL_print_21 : decode cL_print 21 = .ok (.astore 4, 2) := by decide +kernel
theorem dL_print_23 : decode cL_print 23 = .ok (.iconst 3, 1) := by decide +kernel
theorem dL_print_24 : decode cL_print 24 = .ok (.ireturn, 1) := by decide +kernel
theorem dL_print_25 : decode cL_print 25 = .ok (.iconst 0, 1) := by decide +kernel
theorem dL_print_26 : decode cL_print 26 = .ok (.ireturn, 1) := by decide +kernel
theorem dL_strike_0 : decode cL_strike 0 = .ok (.aload_n 2, 1) := by decide +kernel
theorem dL_strike_1 : decode cL_strike 1 = .ok (.iconst 0, 1) := by decide +kernel
theorem dL_strike_2 : decode cL_strike 2 = .ok (.aload_n 0, 1) := by decide +kernel
theorem dL_strike_3 : decode cL_strike 3 = .ok (.iload_n 1, 1) := by decide +kernel
theorem dL_strike_4 : decode cL_strike 4 = .ok (.invokevirtual 45, 3) := by decide +kernel
theorem dL_strike_7 : decode cL_strike 7 = .ok (.i2l, 1) := by decide +kernel
theorem dL_strike_8 : decode cL_strike 8 = .ok (.lastore, 1) := by decide +kernel
theorem dL_strike_9 : decode cL_strike 9 = .ok (.goto 9, 3) := by decide +kernel
theorem dL_strike_12 : decode cL_strike 12 = .ok (.astore_n 3, 1) := by decide +kernel
theorem dL_strike_13 : decode cL_strike 13 = .ok (.iconst 1, 1) := by decide +kernel
theorem dL_strike_14 : decode cL_strike 14 = .ok (.ireturn, 1) := by decide +kernel
theorem dL_strike_15 : decode cL_strike 15 = .ok (.astore_n 3, 1) := by decide +kernel
theorem dL_strike_16 : decode cL_strike 16 = .ok (.iconst 2, 1) := by decide +kernel
theorem dL_strike_17 : decode cL_strike 17 = .ok (.ireturn, 1) := by decide +kernel
theorem dL_strike_18 : decode cL_strike 18 = .ok (.iconst 0, 1) := by decide +kernel
theorem dL_strike_19 : decode cL_strike 19 = .ok (.ireturn, 1) := by decide +kernel
theorem dL_block_0 : decode cL_block 0 = .ok (.aload 4, 2) := by decide +kernel
theorem dL_block_2 : decode cL_block 2 = .ok (.iconst 0, 1) := by decide +kernel
theorem dL_block_3 : decode cL_block 3 = .ok (.aload_n 0, 1) := by decide +kernel
theorem dL_block_4 : decode cL_block 4 = .ok (.iload_n 1, 1) := by decide +kernel
theorem dL_block_5 : decode cL_block 5 = .ok (.iload_n 2, 1) := by decide +kernel
theorem dL_block_6 : decode cL_block 6 = .ok (.iload_n 3, 1) := by decide +kernel
theorem dL_block_7 : decode cL_block 7 = .ok (.invokevirtual 48, 3) := by decide +kernel
theorem dL_block_10 : decode cL_block 10 = .ok (.i2l, 1) := by decide +kernel
theorem dL_block_11 : decode cL_block 11 = .ok (.lastore, 1) := by decide +kernel
theorem dL_block_12 : decode cL_block 12 = .ok (.goto 7, 3) := by decide +kernel
theorem dL_block_15 : decode cL_block 15 = .ok (.astore 5, 2) := by decide +kernel
theorem dL_block_17 : decode cL_block 17 = .ok (.iconst 1, 1) := by decide +kernel
theorem dL_block_18 : decode cL_block 18 = .ok (.ireturn, 1) := by decide +kernel
theorem dL_block_19 : decode cL_block 19 = .ok (.iconst 0, 1) := by decide +kernel
theorem dL_block_20 : decode cL_block 20 = .ok (.ireturn, 1) := by decide +kernel
theorem dL_told_0 : decode cL_told 0 = .ok (.aload_n 3, 1) := by decide +kernel
theorem dL_told_1 : decode cL_told 1 = .ok (.iconst 0, 1) := by decide +kernel
theorem dL_told_2 : decode cL_told 2 = .ok (.aload_n 0, 1) := by decide +kernel
theorem dL_told_3 : decode cL_told 3 = .ok (.iload_n 1, 1) := by decide +kernel
theorem dL_told_4 : decode cL_told 4 = .ok (.iload_n 2, 1) := by decide +kernel
theorem dL_told_5 : decode cL_told 5 = .ok (.invokevirtual 51, 3) := by decide +kernel
theorem dL_told_8 : decode cL_told 8 = .ok (.i2l, 1) := by decide +kernel
theorem dL_told_9 : decode cL_told 9 = .ok (.lastore, 1) := by decide +kernel
theorem dL_told_10 : decode cL_told 10 = .ok (.goto 7, 3) := by decide +kernel
theorem dL_told_13 : decode cL_told 13 = .ok (.astore 4, 2) := by decide +kernel
theorem dL_told_15 : decode cL_told 15 = .ok (.iconst 1, 1) := by decide +kernel
theorem dL_told_16 : decode cL_told 16 = .ok (.ireturn, 1) := by decide +kernel
theorem dL_told_17 : decode cL_told 17 = .ok (.iconst 0, 1) := by decide +kernel
theorem dL_told_18 : decode cL_told 18 = .ok (.ireturn, 1) := by decide +kernel
theorem dL_about_0 : decode cL_about 0 = .ok (.aload 4, 2) := by decide +kernel
theorem dL_about_2 : decode cL_about 2 = .ok (.iconst 0, 1) := by decide +kernel
theorem dL_about_3 : decode cL_about 3 = .ok (.aload_n 0, 1) := by decide +kernel
theorem dL_about_4 : decode cL_about 4 = .ok (.iload_n 1, 1) := by decide +kernel
theorem dL_about_5 : decode cL_about 5 = .ok (.iload_n 2, 1) := by decide +kernel
theorem dL_about_6 : decode cL_about 6 = .ok (.iload_n 3, 1) := by decide +kernel
theorem dL_about_7 : decode cL_about 7 = .ok (.invokevirtual 54, 3) := by decide +kernel
theorem dL_about_10 : decode cL_about 10 = .ok (.i2l, 1) := by decide +kernel
theorem dL_about_11 : decode cL_about 11 = .ok (.lastore, 1) := by decide +kernel
theorem dL_about_12 : decode cL_about 12 = .ok (.goto 7, 3) := by decide +kernel
theorem dL_about_15 : decode cL_about 15 = .ok (.astore 5, 2) := by decide +kernel
theorem dL_about_17 : decode cL_about 17 = .ok (.iconst 1, 1) := by decide +kernel
theorem dL_about_18 : decode cL_about 18 = .ok (.ireturn, 1) := by decide +kernel
theorem dL_about_19 : decode cL_about 19 = .ok (.iconst 0, 1) := by decide +kernel
theorem dL_about_20 : decode cL_about 20 = .ok (.ireturn, 1) := by decide +kernel
theorem dL_count_0 : decode cL_count 0 = .ok (.aload_n 2, 1) := by decide +kernel
theorem dL_count_1 : decode cL_count 1 = .ok (.iconst 0, 1) := by decide +kernel
theorem dL_count_2 : decode cL_count 2 = .ok (.aload_n 0, 1) := by decide +kernel
theorem dL_count_3 : decode cL_count 3 = .ok (.iload_n 1, 1) := by decide +kernel
theorem dL_count_4 : decode cL_count 4 = .ok (.invokevirtual 57, 3) := by decide +kernel
theorem dL_count_7 : decode cL_count 7 = .ok (.i2l, 1) := by decide +kernel
theorem dL_count_8 : decode cL_count 8 = .ok (.lastore, 1) := by decide +kernel
theorem dL_count_9 : decode cL_count 9 = .ok (.goto 6, 3) := by decide +kernel
theorem dL_count_12 : decode cL_count 12 = .ok (.astore_n 3, 1) := by decide +kernel
theorem dL_count_13 : decode cL_count 13 = .ok (.iconst 1, 1) := by decide +kernel
theorem dL_count_14 : decode cL_count 14 = .ok (.ireturn, 1) := by decide +kernel
theorem dL_count_15 : decode cL_count 15 = .ok (.iconst 0, 1) := by decide +kernel
theorem dL_count_16 : decode cL_count 16 = .ok (.ireturn, 1) := by decide +kernel
theorem dL_would_0 : decode cL_would 0 = .ok (.aload_n 3, 1) := by decide +kernel
theorem dL_would_1 : decode cL_would 1 = .ok (.iconst 0, 1) := by decide +kernel
theorem dL_would_2 : decode cL_would 2 = .ok (.aload_n 0, 1) := by decide +kernel
theorem dL_would_3 : decode cL_would 3 = .ok (.iload_n 1, 1) := by decide +kernel
theorem dL_would_4 : decode cL_would 4 = .ok (.iload_n 2, 1) := by decide +kernel
theorem dL_would_5 : decode cL_would 5 = .ok (.invokevirtual 60, 3) := by decide +kernel
theorem dL_would_8 : decode cL_would 8 = .ok (.i2l, 1) := by decide +kernel
theorem dL_would_9 : decode cL_would 9 = .ok (.lastore, 1) := by decide +kernel
theorem dL_would_10 : decode cL_would 10 = .ok (.goto 7, 3) := by decide +kernel
theorem dL_would_13 : decode cL_would 13 = .ok (.astore 4, 2) := by decide +kernel
theorem dL_would_15 : decode cL_would 15 = .ok (.iconst 1, 1) := by decide +kernel
theorem dL_would_16 : decode cL_would 16 = .ok (.ireturn, 1) := by decide +kernel
theorem dL_would_17 : decode cL_would 17 = .ok (.iconst 0, 1) := by decide +kernel
theorem dL_would_18 : decode cL_would 18 = .ok (.ireturn, 1) := by decide +kernel
theorem dL_advise_0 : decode cL_advise 0 = .ok (.aload_n 2, 1) := by decide +kernel
theorem dL_advise_1 : decode cL_advise 1 = .ok (.iconst 0, 1) := by decide +kernel
theorem dL_advise_2 : decode cL_advise 2 = .ok (.aload_n 0, 1) := by decide +kernel
theorem dL_advise_3 : decode cL_advise 3 = .ok (.iload_n 1, 1) := by decide +kernel
theorem dL_advise_4 : decode cL_advise 4 = .ok (.invokevirtual 63, 3) := by decide +kernel
theorem dL_advise_7 : decode cL_advise 7 = .ok (.i2l, 1) := by decide +kernel
theorem dL_advise_8 : decode cL_advise 8 = .ok (.lastore, 1) := by decide +kernel
theorem dL_advise_9 : decode cL_advise 9 = .ok (.goto 6, 3) := by decide +kernel
theorem dL_advise_12 : decode cL_advise 12 = .ok (.astore_n 3, 1) := by decide +kernel
theorem dL_advise_13 : decode cL_advise 13 = .ok (.iconst 1, 1) := by decide +kernel
theorem dL_advise_14 : decode cL_advise 14 = .ok (.ireturn, 1) := by decide +kernel
theorem dL_advise_15 : decode cL_advise 15 = .ok (.iconst 0, 1) := by decide +kernel
theorem dL_advise_16 : decode cL_advise 16 = .ok (.ireturn, 1) := by decide +kernel
theorem dL_lasts_0 : decode cL_lasts 0 = .ok (.aload_n 2, 1) := by decide +kernel
theorem dL_lasts_1 : decode cL_lasts 1 = .ok (.iconst 0, 1) := by decide +kernel
theorem dL_lasts_2 : decode cL_lasts 2 = .ok (.aload_n 0, 1) := by decide +kernel
theorem dL_lasts_3 : decode cL_lasts 3 = .ok (.iload_n 1, 1) := by decide +kernel
theorem dL_lasts_4 : decode cL_lasts 4 = .ok (.invokevirtual 66, 3) := by decide +kernel
theorem dL_lasts_7 : decode cL_lasts 7 = .ok (.i2l, 1) := by decide +kernel
theorem dL_lasts_8 : decode cL_lasts 8 = .ok (.lastore, 1) := by decide +kernel
theorem dL_lasts_9 : decode cL_lasts 9 = .ok (.goto 9, 3) := by decide +kernel
theorem dL_lasts_12 : decode cL_lasts 12 = .ok (.astore_n 3, 1) := by decide +kernel
theorem dL_lasts_13 : decode cL_lasts 13 = .ok (.iconst 1, 1) := by decide +kernel
theorem dL_lasts_14 : decode cL_lasts 14 = .ok (.ireturn, 1) := by decide +kernel
theorem dL_lasts_15 : decode cL_lasts 15 = .ok (.astore_n 3, 1) := by decide +kernel
theorem dL_lasts_16 : decode cL_lasts 16 = .ok (.iconst 2, 1) := by decide +kernel
theorem dL_lasts_17 : decode cL_lasts 17 = .ok (.ireturn, 1) := by decide +kernel
theorem dL_lasts_18 : decode cL_lasts 18 = .ok (.iconst 0, 1) := by decide +kernel
theorem dL_lasts_19 : decode cL_lasts 19 = .ok (.ireturn, 1) := by decide +kernel
/-- the good words of the tables: every contract's words, behind its own code -/
def wsG : List Cond := lw_tbl.filter goodWord
theorem tG {w : Cond} (h : w ∈ tables_1) (hg : goodWord w = true) : w ∈ wsG := List.mem_filter.mpr ⟨List.mem_append_right _ h, hg⟩
theorem tg1 {w : Cond} (i : Nat) (h : tables_1_1[i]? = some w) (hg : goodWord w = true) : w ∈ wsG := tG (List.mem_append_left _ (List.mem_of_getElem? h)) hg
theorem tg2 {w : Cond} (i : Nat) (h : tables_1_2[i]? = some w) (hg : goodWord w = true) : w ∈ wsG := tG (List.mem_append_right _ (List.mem_append_left _ (List.mem_of_getElem? h))) hg
theorem tg3 {w : Cond} (i : Nat) (h : tables_1_3[i]? = some w) (hg : goodWord w = true) : w ∈ wsG := tG (List.mem_append_right _ (List.mem_append_right _ (List.mem_append_left _ (List.mem_of_getElem? h)))) hg
theorem tg4 {w : Cond} (i : Nat) (h : tables_1_4[i]? = some w) (hg : goodWord w = true) : w ∈ wsG := tG (List.mem_append_right _ (List.mem_append_right _ (List.mem_append_right _ (List.mem_append_left _ (List.mem_of_getElem? h))))) hg
theorem tg0 {w : Cond} (i : Nat) (h : (k2_sels lw_privs)[i]? = some w) (hg : goodWord w = true) : w ∈ wsG := List.mem_filter.mpr ⟨List.mem_append_left _ (List.mem_of_getElem? h), hg⟩
theorem good_all {w : Cond} (h : w ∈ wsG) : (w.onTables && w.keeps) = true ∨ ∃ ty, w = .arrayClass ty := good_of_word (List.mem_filter.mp h).2
set_option maxRecDepth 100000 in
theorem inG0 : ∀ w ∈ wsX00, w ∈ wsG := by decide +kernel
set_option maxRecDepth 100000 in
theorem inG1 : ∀ w ∈ wsX10, w ∈ wsG := by decide +kernel
set_option maxRecDepth 100000 in
theorem inG2 : ∀ w ∈ wsX20, w ∈ wsG := by decide +kernel
set_option maxRecDepth 100000 in
theorem inG3 : ∀ w ∈ wsX30, w ∈ wsG := by decide +kernel
set_option maxRecDepth 100000 in
theorem inG4 : ∀ w ∈ wsX40, w ∈ wsG := by decide +kernel
set_option maxRecDepth 100000 in
theorem inGL : ∀ w ∈ wsJx4a65c0, w ∈ wsG := by decide +kernel
end
section
/-! THE WORLD: one function g (key, place) holds every whole number of class, reference and law's cell; the keys' addresses ad; references follow from the numbers -/
abbrev vwCl : List vw_C := [(RJx4a65c, TJx4a65c, 3), (RX0, TX0, 6), (RX1, TX1, 6), (RX2, TX2, 5), (RX3, TX3, 7), (RX4, TX4, 27)]
abbrev MG : Type := Nat → Nat → Int32
abbrev Lo : Type := List (Option Value)
abbrev Yc : Type := ClassId × ClassId × ClassId
def wr (g : MG) (k j : Nat) (x : Int32) : MG := fun a b => if a = k then (if b = j then x else g a b) else g a b
def iz (x : Int32) : Nat := x.toNatClampNeg
theorem wr_same (g : MG) (k j : Nat) (x : Int32) : wr g k j x k j = x := by simp [wr]
theorem wr_row (g : MG) (k j : Nat) (x : Int32) {q : Nat} (h : q ≠ k) : wr g k j x q = g q := by funext b; simp [wr, h]
theorem wr_ne (g : MG) (k j : Nat) (x : Int32) {q i : Nat} (h : q ≠ k ∨ i ≠ j) : wr g k j x q i = g q i := by
  unfold wr
  rcases h with h | h
  · rw [if_neg h]
  · by_cases hk : q = k
    · rw [if_pos hk, if_neg h]
    · rw [if_neg hk]
theorem wr_own (g : MG) (k j : Nat) (x : Int32) : wr g k j x k = upd (g k) j x := by funext b; simp [wr, upd]
theorem nI_iz {x : Int32} (h : 0 ≤ x.toInt) : nI (iz x) = x := by
  apply Int32.toInt_inj.mp
  have h1 : (iz x : Int) = x.toInt := by unfold iz; rw [Int32.toNatClampNeg]; omega
  have h2 : iz x < 2 ^ 31 := by have := Int32.toInt_lt x; omega
  rw [nI_toInt h2, h1]
theorem iz_nI {n : Nat} (h : n < 2 ^ 31) : iz (nI n) = n := nI_clamp h
def lenM (k : Nat) : Nat := match k with
  | 5 => 5
  | 6 => 50
  | 7 => 50
  | 8 => 50
  | 9 => 10
  | 10 => 4
  | 11 => 4
  | 12 => 6
  | 13 => 6
  | 14 => 6
  | 15 => 6
  | 16 => 6
  | 17 => 24
  | 18 => 24
  | 19 => 24
  | 20 => 24
  | 21 => 50
  | 22 => 4
  | 23 => 4
  | 24 => 4
  | 25 => 10
  | _ => 0
/-- a list's object, its first elements' row behind it -/
def cLi (ad : Nat → Nat) (df : Nat) (r : Nat → Int32) (e : Nat) : va_E := .inr (0, [.int (r 2), .ref (if r 2 = 0 then df else ad e), .int (r 2)])
def cEd (Y : Yc) (n : Int32) (f : Nat → Nat) : Option va_E := if n = 0 then none else some (.inl (Y.2.1, 10, .inr (.inr (.inr (.inr (fun j => if j < iz n then some (f j) else none))))))
def fR (ad : Nat → Nat) (x : Int32) : Option Nat := if x < 0 then none else some (ad (40 + 10 * iz x))
/-- a cell by its key, out of the sizes n1, n2, nl and the numbers r of its own -/
def cS (Y : Yc) (ad : Nat → Nat) (df : Nat) (n1 n2 : Int32) (nl : Nat → Int32) (r : Nat → Int32) (k : Nat) : Option va_E :=
  if k = 0 then some (.inr (5, [.int (r 0), .int (r 1), .int (r 2), .int (r 3), .int (r 4), .ref (ad 5), .ref (ad 6), .ref (ad 7), .ref (ad 8), .ref (ad 9), .ref (ad 10), .ref (ad 11), .ref (ad 12), .ref (ad 13), .ref (ad 14), .ref (ad 15), .ref (ad 16), .ref (ad 17), .ref (ad 18), .ref (ad 19), .ref (ad 20), .ref (ad 21), .ref (ad 22), .ref (ad 23), .ref (ad 24), .ref (ad 25), .int (r 26)]))
  else if k < 5 then none
  else if k < 26 then some (.inl (Y.1, lenM k, .inl r))
  else if k < 30 then none
  else if k = 30 then some (.inr (4, [.ref (ad 31), .ref (ad 32), .ref (ad 33), .ref (ad 34), .ref (ad 35), .int (r 5), .int (r 6)]))
  else if k = 31 then some (cLi ad df r 36)
  else if k = 32 then some (cLi ad df r 37)
  else if k = 33 then some (.inl (Y.1, 10, .inl r))
  else if k < 36 then some (.inl (Y.1, 4, .inl r))
  else if k = 36 then cEd Y n1 (fun j => ad (40 + 10 * j))
  else if k = 37 then cEd Y n2 (fun j => ad (100 + 10 * j))
  else if k < 40 then none
  else if k < 90 then
    if (k - 40) / 10 < iz n1 then
      if (k - 40) % 10 = 0 then some (.inr (1, [.int (r 0), .int (r 1), .ref (ad (k + 1)), .ref (ad (k + 2)), .ref (ad (k + 3)), .ref (ad (k + 4))]))
      else if (k - 40) % 10 < 5 then some (.inl (Y.1, 10, .inl r)) else none
    else none
  else if k < 100 then none
  else if k < 160 then
    if (k - 100) / 10 < iz n2 then
      if (k - 100) % 10 = 0 then some (.inr (3, [.int (r 0), .int (r 1), .ref (ad (k + 1)), .int (r 3), .int (r 4)]))
      else if (k - 100) % 10 = 1 then some (cLi ad df r (k + 1))
      else if (k - 100) % 10 = 2 then cEd Y (nl ((k - 100) / 10)) (fun j => ad (200 + 10 * (4 * ((k - 100) / 10) + j))) else none
    else none
  else if k < 200 then none
  else if k < 440 then
    if (k - 200) / 40 < iz n2 ∧ ((k - 200) / 10) % 4 < iz (nl ((k - 200) / 40)) then
      if (k - 200) % 10 = 0 then some (.inr (2, [.ref (ad (k + 1)), .int (r 1), .ref (ad (k + 2)), va_rf (fR ad (r 3)), .int (r 4), .int (r 5)]))
      else if (k - 200) % 10 = 1 then some (.inl (Y.1, 8, .inl r))
      else if (k - 200) % 10 = 2 then some (.inl (Y.1, 10, .inl r)) else none
    else none
  else if k = 500 then some (.inl (Y.2.2, 1, .inr (.inl (fun i => (r i).toInt64))))
  else none
def cx (Y : Yc) (ad : Nat → Nat) (df : Nat) (g : MG) (k : Nat) : Option va_E := cS Y ad df (g 31 2) (g 32 2) (fun p => g (101 + 10 * p) 2) (g k) k
/-- the shape: how many there are of each; a line's fount is one of them -/
def Wf (g : MG) : Prop := (∃ n, n ≤ 5 ∧ g 31 2 = nI n ∧ ∀ j, j < 24 → g (200 + 10 * j) 3 = -1 ∨ ∃ i, i < n ∧ g (200 + 10 * j) 3 = nI i) ∧ (∃ n, n ≤ 6 ∧ g 32 2 = nI n) ∧ ∀ p, p < 6 → ∃ n, n ≤ 4 ∧ g (101 + 10 * p) 2 = nI n
def Hw (D : va_G) (Y : Yc) (ad : Nat → Nat) (df z : Nat) (g : MG) (H : Heap) : Prop :=
  (∀ k e, cx Y ad df g k = some e → va_at D vwCl (ad k, e) H ∧ z ≤ ad k) ∧ (∀ k k', cx Y ad df g k ≠ none → cx Y ad df g k' ≠ none → ad k = ad k' → k = k') ∧ Wf g
def A0 (z : Nat) : Nat → Prop := fun q => z ≤ q
/-- keys of lists: their sizes are the shape -/
def lk (k : Nat) : Bool := k == 31 || k == 32 || (decide (100 ≤ k) && decide (k < 160) && k % 10 == 1)
theorem lk_p {p : Nat} (h : p < 6) : lk (101 + 10 * p) = true := by
  have h1 : 100 ≤ 101 + 10 * p := by omega
  have h2 : 101 + 10 * p < 160 := by omega
  have h3 : (101 + 10 * p) % 10 = 1 := by omega
  simp [lk, h1, h2, h3]
theorem cS_nl (Y : Yc) (ad : Nat → Nat) (df : Nat) (n1 n2 : Int32) {nl nl' : Nat → Int32} (h : ∀ p, p < 6 → nl p = nl' p) (r : Nat → Int32) (k : Nat) : cS Y ad df n1 n2 nl r k = cS Y ad df n1 n2 nl' r k := by
  by_cases h1 : 100 ≤ k ∧ k < 160
  · have e : nl ((k - 100) / 10) = nl' ((k - 100) / 10) := h _ (by omega)
    simp only [cS, e, h1.2, if_true]
  · by_cases h2 : 200 ≤ k ∧ k < 440
    · have e : nl ((k - 200) / 40) = nl' ((k - 200) / 40) := h _ (by omega)
      simp only [cS, e]
      have a1 : ¬ k < 160 := by omega
      simp only [a1, if_false]
    · have a1 : k < 100 ∨ 160 ≤ k := by omega
      have a2 : k < 200 ∨ 440 ≤ k := by omega
      unfold cS
      rcases a1 with a1 | a1
      · simp only [a1, if_true]
      · have b1 : ¬ k < 160 := by omega
        rcases a2 with a2 | a2
        · simp only [a2, b1, if_true, if_false]
        · have b2 : ¬ k < 440 := by omega
          simp only [b1, b2, if_false]
theorem cx_wr_ne (Y : Yc) (ad : Nat → Nat) (df : Nat) (g : MG) {k j : Nat} (x : Int32) (hk : lk k = false) {q : Nat} (hq : q ≠ k) : cx Y ad df (wr g k j x) q = cx Y ad df g q := by
  have n31 : 31 ≠ k := by rintro rfl; simp [lk] at hk
  have n32 : 32 ≠ k := by rintro rfl; simp [lk] at hk
  unfold cx
  rw [wr_row g k j x n31, wr_row g k j x n32, wr_row g k j x hq]
  refine cS_nl Y ad df _ _ (fun p hp => ?_) _ _
  have : 101 + 10 * p ≠ k := by rintro rfl; rw [lk_p hp] at hk; cases hk
  rw [wr_row g k j x this]
theorem Wf_wr {g : MG} (h : Wf g) {k j : Nat} (x : Int32) (hk : lk k = false) (hx : j = 3 → (∀ i, i < 24 → k ≠ 200 + 10 * i) ∨ x = -1 ∨ ∃ i, g 31 2 = g 31 2 ∧ (∀ n, g 31 2 = nI n → n ≤ 5 → i < n) ∧ x = nI i) : Wf (wr g k j x) := by
  obtain ⟨⟨n, hn, e1, hf⟩, ⟨n2, hn2, e2⟩, h3⟩ := h
  have n31 : 31 ≠ k := by rintro rfl; simp [lk] at hk
  have n32 : 32 ≠ k := by rintro rfl; simp [lk] at hk
  refine ⟨⟨n, hn, by rw [wr_row g k j x n31]; exact e1, fun i hi => ?_⟩, ⟨n2, hn2, by rw [wr_row g k j x n32]; exact e2⟩, fun p hp => ?_⟩
  · by_cases hki : 200 + 10 * i = k
    · by_cases hj : j = 3
      · rcases hx hj with h | h | ⟨i', -, h, h'⟩
        · exact absurd hki.symm (h i hi)
        · left; rw [hki, hj, wr_same]; exact h
        · right; exact ⟨i', h n e1 hn, by rw [hki, hj, wr_same]; exact h'⟩
      · rw [wr_ne g k j x (Or.inr (fun q => hj q.symm))]
        exact hf i hi
    · rw [wr_row g k j x hki]
      exact hf i hi
  · have : 101 + 10 * p ≠ k := by rintro rfl; rw [lk_p hp] at hk; cases hk
    rw [wr_row g k j x this]
    exact h3 p hp
/-- one cell written: its number place j gets x -/
theorem Hw_wr {D : va_G} {Y : Yc} {ad : Nat → Nat} {df z : Nat} {g : MG} {H H' : Heap} (h : Hw D Y ad df z g H) {k j : Nat} {x : Int32} {e e' : va_E} (hk : lk k = false) (hx : j = 3 → (∀ i, i < 24 → k ≠ 200 + 10 * i) ∨ x = -1 ∨ ∃ i, g 31 2 = g 31 2 ∧ (∀ n, g 31 2 = nI n → n ≤ 5 → i < n) ∧ x = nI i)
    (he : cx Y ad df g k = some e) (he' : cx Y ad df (wr g k j x) k = some e') (ha : va_at D vwCl (ad k, e') H') (oq : ∀ q : Nat, q ≠ ad k → H'[q]? = H[q]?) : Hw D Y ad df z (wr g k j x) H' := by
  have hne : ∀ q, cx Y ad df (wr g k j x) q ≠ none ↔ cx Y ad df g q ≠ none := by
    intro q
    by_cases hq : q = k
    · subst hq; rw [he, he']; simp
    · rw [cx_wr_ne Y ad df g x hk hq]
  refine ⟨fun q e0 hq => ?_, fun a b ha hb hab => h.2.1 a b ((hne a).mp ha) ((hne b).mp hb) hab, Wf_wr h.2.2 x hk hx⟩
  by_cases hqk : q = k
  · subst hqk
    rw [he'] at hq
    cases hq
    exact ⟨ha, (h.1 q e he).2⟩
  · rw [cx_wr_ne Y ad df g x hk hqk] at hq
    refine ⟨(h.1 q e0 hq).1.kept (oq _ fun hh => hqk (h.2.1 q k (by rw [hq]; simp) (by rw [he]; simp) hh)), (h.1 q e0 hq).2⟩
theorem Hw_kept {D : va_G} {Y : Yc} {ad : Nat → Nat} {df z : Nat} {g : MG} {H H' : Heap} (h : Hw D Y ad df z g H) (oq : ∀ q : Nat, q < H.size → H'[q]? = H[q]?) : Hw D Y ad df z g H' :=
  ⟨fun k e hk => ⟨(h.1 k e hk).1.kept (oq _ (h.1 k e hk).1.lt), (h.1 k e hk).2⟩, h.2⟩
-- what lies at a key
theorem cx_M {Y : Yc} {ad : Nat → Nat} {df : Nat} {g : MG} : cx Y ad df g 0 = some (.inr (5, [.int (g 0 0), .int (g 0 1), .int (g 0 2), .int (g 0 3), .int (g 0 4), .ref (ad 5), .ref (ad 6), .ref (ad 7), .ref (ad 8), .ref (ad 9), .ref (ad 10), .ref (ad 11), .ref (ad 12), .ref (ad 13), .ref (ad 14), .ref (ad 15), .ref (ad 16), .ref (ad 17), .ref (ad 18), .ref (ad 19), .ref (ad 20), .ref (ad 21), .ref (ad 22), .ref (ad 23), .ref (ad 24), .ref (ad 25), .int (g 0 26)])) := rfl
theorem cx_Ma {Y : Yc} {ad : Nat → Nat} {df : Nat} {g : MG} {k : Nat} (h : 5 ≤ k ∧ k < 26) : cx Y ad df g k = some (.inl (Y.1, lenM k, .inl (g k))) := by
  have h0 : k ≠ 0 := by omega
  have h1 : ¬ k < 5 := by omega
  simp only [cx, cS, h0, h1, h.2, if_false, if_true]
theorem cx_T {Y : Yc} {ad : Nat → Nat} {df : Nat} {g : MG} : cx Y ad df g 30 = some (.inr (4, [.ref (ad 31), .ref (ad 32), .ref (ad 33), .ref (ad 34), .ref (ad 35), .int (g 30 5), .int (g 30 6)])) := rfl
theorem cx_L1 {Y : Yc} {ad : Nat → Nat} {df : Nat} {g : MG} : cx Y ad df g 31 = some (cLi ad df (g 31) 36) := rfl
theorem cx_L2 {Y : Yc} {ad : Nat → Nat} {df : Nat} {g : MG} : cx Y ad df g 32 = some (cLi ad df (g 32) 37) := rfl
theorem cx_O {Y : Yc} {ad : Nat → Nat} {df : Nat} {g : MG} : cx Y ad df g 33 = some (.inl (Y.1, 10, .inl (g 33))) := rfl
theorem cx_Pa {Y : Yc} {ad : Nat → Nat} {df : Nat} {g : MG} : cx Y ad df g 34 = some (.inl (Y.1, 4, .inl (g 34))) := rfl
theorem cx_Sr {Y : Yc} {ad : Nat → Nat} {df : Nat} {g : MG} : cx Y ad df g 35 = some (.inl (Y.1, 4, .inl (g 35))) := rfl
theorem cx_out {Y : Yc} {ad : Nat → Nat} {df : Nat} {g : MG} : cx Y ad df g 500 = some (.inl (Y.2.2, 1, .inr (.inl (fun i => (g 500 i).toInt64)))) := rfl
theorem cx_F {Y : Yc} {ad : Nat → Nat} {df : Nat} {g : MG} {i n : Nat} (hn : g 31 2 = nI n) (hi : i < n) (h5 : n ≤ 5) : cx Y ad df g (40 + 10 * i) = some (.inr (1, [.int (g (40 + 10 * i) 0), .int (g (40 + 10 * i) 1), .ref (ad (40 + 10 * i + 1)), .ref (ad (40 + 10 * i + 2)), .ref (ad (40 + 10 * i + 3)), .ref (ad (40 + 10 * i + 4))])) := by
  have e : iz (g 31 2) = n := by rw [hn]; exact iz_nI (by omega)
  have a1 : (40 + 10 * i - 40) / 10 = i := by omega
  have a2 : (40 + 10 * i - 40) % 10 = 0 := by omega
  have b1 : 40 + 10 * i ≠ 0 := by omega
  have b2 : ¬ 40 + 10 * i < 5 := by omega
  have b3 : ¬ 40 + 10 * i < 26 := by omega
  have b4 : ¬ 40 + 10 * i < 30 := by omega
  have b5 : ¬ 40 + 10 * i = 30 := by omega
  have b6 : ¬ 40 + 10 * i = 31 := by omega
  have b7 : ¬ 40 + 10 * i = 32 := by omega
  have b8 : ¬ 40 + 10 * i = 33 := by omega
  have b9 : ¬ 40 + 10 * i < 36 := by omega
  have b10 : ¬ 40 + 10 * i = 36 := by omega
  have b11 : ¬ 40 + 10 * i = 37 := by omega
  have b12 : ¬ 40 + 10 * i < 40 := by omega
  have b13 : 40 + 10 * i < 90 := by omega
  simp only [cx, cS, e, a1, a2, b1, b2, b3, b4, b5, b6, b7, b8, b9, b10, b11, b12, b13, hi, if_false, if_true]
theorem cx_Fa {Y : Yc} {ad : Nat → Nat} {df : Nat} {g : MG} {i n : Nat} (r : Nat) (hn : g 31 2 = nI n) (hi : i < n) (h5 : n ≤ 5) (hr : 1 ≤ r ∧ r < 5) : cx Y ad df g (40 + 10 * i + r) = some (.inl (Y.1, 10, .inl (g (40 + 10 * i + r)))) := by
  have e : iz (g 31 2) = n := by rw [hn]; exact iz_nI (by omega)
  have a1 : (40 + 10 * i + r - 40) / 10 = i := by omega
  have a2 : ¬ (40 + 10 * i + r - 40) % 10 = 0 := by omega
  have a3 : (40 + 10 * i + r - 40) % 10 < 5 := by omega
  have b1 : 40 + 10 * i + r ≠ 0 := by omega
  have b2 : ¬ 40 + 10 * i + r < 5 := by omega
  have b3 : ¬ 40 + 10 * i + r < 26 := by omega
  have b4 : ¬ 40 + 10 * i + r < 30 := by omega
  have b5 : ¬ 40 + 10 * i + r = 30 := by omega
  have b6 : ¬ 40 + 10 * i + r = 31 := by omega
  have b7 : ¬ 40 + 10 * i + r = 32 := by omega
  have b8 : ¬ 40 + 10 * i + r = 33 := by omega
  have b9 : ¬ 40 + 10 * i + r < 36 := by omega
  have b10 : ¬ 40 + 10 * i + r = 36 := by omega
  have b11 : ¬ 40 + 10 * i + r = 37 := by omega
  have b12 : ¬ 40 + 10 * i + r < 40 := by omega
  have b13 : 40 + 10 * i + r < 90 := by omega
  simp only [cx, cS, e, a1, a2, a3, b1, b2, b3, b4, b5, b6, b7, b8, b9, b10, b11, b12, b13, hi, if_false, if_true]
theorem cx_P {Y : Yc} {ad : Nat → Nat} {df : Nat} {g : MG} {i n : Nat} (hn : g 32 2 = nI n) (hi : i < n) (h6 : n ≤ 6) : cx Y ad df g (100 + 10 * i) = some (.inr (3, [.int (g (100 + 10 * i) 0), .int (g (100 + 10 * i) 1), .ref (ad (100 + 10 * i + 1)), .int (g (100 + 10 * i) 3), .int (g (100 + 10 * i) 4)])) := by
  have e : iz (g 32 2) = n := by rw [hn]; exact iz_nI (by omega)
  have a1 : (100 + 10 * i - 100) / 10 = i := by omega
  have a2 : (100 + 10 * i - 100) % 10 = 0 := by omega
  have b1 : 100 + 10 * i ≠ 0 := by omega
  have b2 : ¬ 100 + 10 * i < 5 := by omega
  have b3 : ¬ 100 + 10 * i < 26 := by omega
  have b4 : ¬ 100 + 10 * i < 30 := by omega
  have b5 : ¬ 100 + 10 * i = 30 := by omega
  have b6 : ¬ 100 + 10 * i = 31 := by omega
  have b7 : ¬ 100 + 10 * i = 32 := by omega
  have b8 : ¬ 100 + 10 * i = 33 := by omega
  have b9 : ¬ 100 + 10 * i < 36 := by omega
  have b10 : ¬ 100 + 10 * i = 36 := by omega
  have b11 : ¬ 100 + 10 * i = 37 := by omega
  have b12 : ¬ 100 + 10 * i < 40 := by omega
  have b13 : ¬ 100 + 10 * i < 90 := by omega
  have b14 : ¬ 100 + 10 * i < 100 := by omega
  have b15 : 100 + 10 * i < 160 := by omega
  simp only [cx, cS, e, a1, a2, b1, b2, b3, b4, b5, b6, b7, b8, b9, b10, b11, b12, b13, b14, b15, hi, if_false, if_true]
theorem cx_PL {Y : Yc} {ad : Nat → Nat} {df : Nat} {g : MG} {i n : Nat} (hn : g 32 2 = nI n) (hi : i < n) (h6 : n ≤ 6) : cx Y ad df g (100 + 10 * i + 1) = some (cLi ad df (g (100 + 10 * i + 1)) (100 + 10 * i + 1 + 1)) := by
  have e : iz (g 32 2) = n := by rw [hn]; exact iz_nI (by omega)
  have a1 : (100 + 10 * i + 1 - 100) / 10 = i := by omega
  have a2 : ¬ (100 + 10 * i + 1 - 100) % 10 = 0 := by omega
  have a3 : (100 + 10 * i + 1 - 100) % 10 = 1 := by omega
  have b1 : 100 + 10 * i + 1 ≠ 0 := by omega
  have b2 : ¬ 100 + 10 * i + 1 < 5 := by omega
  have b3 : ¬ 100 + 10 * i + 1 < 26 := by omega
  have b4 : ¬ 100 + 10 * i + 1 < 30 := by omega
  have b5 : ¬ 100 + 10 * i + 1 = 30 := by omega
  have b6 : ¬ 100 + 10 * i + 1 = 31 := by omega
  have b7 : ¬ 100 + 10 * i + 1 = 32 := by omega
  have b8 : ¬ 100 + 10 * i + 1 = 33 := by omega
  have b9 : ¬ 100 + 10 * i + 1 < 36 := by omega
  have b10 : ¬ 100 + 10 * i + 1 = 36 := by omega
  have b11 : ¬ 100 + 10 * i + 1 = 37 := by omega
  have b12 : ¬ 100 + 10 * i + 1 < 40 := by omega
  have b13 : ¬ 100 + 10 * i + 1 < 90 := by omega
  have b14 : ¬ 100 + 10 * i + 1 < 100 := by omega
  have b15 : 100 + 10 * i + 1 < 160 := by omega
  simp only [cx, cS, e, a1, a2, a3, b1, b2, b3, b4, b5, b6, b7, b8, b9, b10, b11, b12, b13, b14, b15, hi, if_false, if_true]
  rfl
theorem cx_PE {Y : Yc} {ad : Nat → Nat} {df : Nat} {g : MG} {i n : Nat} (hn : g 32 2 = nI n) (hi : i < n) (h6 : n ≤ 6) : cx Y ad df g (100 + 10 * i + 1 + 1) = cEd Y (g (100 + 10 * i + 1) 2) (fun j => ad (200 + 10 * (4 * i + j))) := by
  have e : iz (g 32 2) = n := by rw [hn]; exact iz_nI (by omega)
  have a1 : (100 + 10 * i + 1 + 1 - 100) / 10 = i := by omega
  have a2 : ¬ (100 + 10 * i + 1 + 1 - 100) % 10 = 0 := by omega
  have a3 : ¬ (100 + 10 * i + 1 + 1 - 100) % 10 = 1 := by omega
  have a4 : (100 + 10 * i + 1 + 1 - 100) % 10 = 2 := by omega
  have a5 : 101 + 10 * i = 100 + 10 * i + 1 := by omega
  have b1 : 100 + 10 * i + 1 + 1 ≠ 0 := by omega
  have b2 : ¬ 100 + 10 * i + 1 + 1 < 5 := by omega
  have b3 : ¬ 100 + 10 * i + 1 + 1 < 26 := by omega
  have b4 : ¬ 100 + 10 * i + 1 + 1 < 30 := by omega
  have b5 : ¬ 100 + 10 * i + 1 + 1 = 30 := by omega
  have b6 : ¬ 100 + 10 * i + 1 + 1 = 31 := by omega
  have b7 : ¬ 100 + 10 * i + 1 + 1 = 32 := by omega
  have b8 : ¬ 100 + 10 * i + 1 + 1 = 33 := by omega
  have b9 : ¬ 100 + 10 * i + 1 + 1 < 36 := by omega
  have b10 : ¬ 100 + 10 * i + 1 + 1 = 36 := by omega
  have b11 : ¬ 100 + 10 * i + 1 + 1 = 37 := by omega
  have b12 : ¬ 100 + 10 * i + 1 + 1 < 40 := by omega
  have b13 : ¬ 100 + 10 * i + 1 + 1 < 90 := by omega
  have b14 : ¬ 100 + 10 * i + 1 + 1 < 100 := by omega
  have b15 : 100 + 10 * i + 1 + 1 < 160 := by omega
  simp only [cx, cS, e, a1, a2, a3, a4, a5, b1, b2, b3, b4, b5, b6, b7, b8, b9, b10, b11, b12, b13, b14, b15, hi, if_false, if_true]
  rfl
/-- a line's key: j = 4 * its poster + its number -/
theorem cx_Lr {Y : Yc} {ad : Nat → Nat} {df : Nat} {g : MG} {i q n m : Nat} (r : Nat) (hn : g 32 2 = nI n) (hi : i < n) (h6 : n ≤ 6) (hm : g (101 + 10 * i) 2 = nI m) (hq : q < m) (h4 : m ≤ 4) (hr : r < 3) : cx Y ad df g (200 + 10 * (4 * i + q) + r) = if r = 0 then some (.inr (2, [.ref (ad (200 + 10 * (4 * i + q) + r + 1)), .int (g (200 + 10 * (4 * i + q) + r) 1), .ref (ad (200 + 10 * (4 * i + q) + r + 2)), va_rf (fR ad (g (200 + 10 * (4 * i + q) + r) 3)), .int (g (200 + 10 * (4 * i + q) + r) 4), .int (g (200 + 10 * (4 * i + q) + r) 5)])) else if r = 1 then some (.inl (Y.1, 8, .inl (g (200 + 10 * (4 * i + q) + r)))) else some (.inl (Y.1, 10, .inl (g (200 + 10 * (4 * i + q) + r)))) := by
  have e : iz (g 32 2) = n := by rw [hn]; exact iz_nI (by omega)
  have a1 : (200 + 10 * (4 * i + q) + r - 200) / 40 = i := by omega
  have e2 : iz (g (101 + 10 * i) 2) = m := by rw [hm]; exact iz_nI (by omega)
  have a2 : (200 + 10 * (4 * i + q) + r - 200) / 10 % 4 = q := by omega
  have a3 : (200 + 10 * (4 * i + q) + r - 200) % 10 = r := by omega
  have b1 : 200 + 10 * (4 * i + q) + r ≠ 0 := by omega
  have b2 : ¬ 200 + 10 * (4 * i + q) + r < 5 := by omega
  have b3 : ¬ 200 + 10 * (4 * i + q) + r < 26 := by omega
  have b4 : ¬ 200 + 10 * (4 * i + q) + r < 30 := by omega
  have b5 : ¬ 200 + 10 * (4 * i + q) + r = 30 := by omega
  have b6 : ¬ 200 + 10 * (4 * i + q) + r = 31 := by omega
  have b7 : ¬ 200 + 10 * (4 * i + q) + r = 32 := by omega
  have b8 : ¬ 200 + 10 * (4 * i + q) + r = 33 := by omega
  have b9 : ¬ 200 + 10 * (4 * i + q) + r < 36 := by omega
  have b10 : ¬ 200 + 10 * (4 * i + q) + r = 36 := by omega
  have b11 : ¬ 200 + 10 * (4 * i + q) + r = 37 := by omega
  have b12 : ¬ 200 + 10 * (4 * i + q) + r < 40 := by omega
  have b13 : ¬ 200 + 10 * (4 * i + q) + r < 90 := by omega
  have b14 : ¬ 200 + 10 * (4 * i + q) + r < 100 := by omega
  have b15 : ¬ 200 + 10 * (4 * i + q) + r < 160 := by omega
  have b16 : ¬ 200 + 10 * (4 * i + q) + r < 200 := by omega
  have b17 : 200 + 10 * (4 * i + q) + r < 440 := by omega
  have c : i < n ∧ q < m := ⟨hi, hq⟩
  simp only [cx, cS, e, a1, e2, a2, a3, b1, b2, b3, b4, b5, b6, b7, b8, b9, b10, b11, b12, b13, b14, b15, b16, b17, c, if_false, if_true, and_self]
  by_cases h0 : r = 0
  · simp only [h0, if_true]
  · by_cases h1 : r = 1
    · simp only [h1, if_true]
    · have h2 : r = 2 := by omega
      simp only [h2, if_true]
theorem cx_Ln {Y : Yc} {ad : Nat → Nat} {df : Nat} {g : MG} {i q n m : Nat} (hn : g 32 2 = nI n) (hi : i < n) (h6 : n ≤ 6) (hm : g (101 + 10 * i) 2 = nI m) (hq : q < m) (h4 : m ≤ 4) : cx Y ad df g (200 + 10 * (4 * i + q)) = some (.inr (2, [.ref (ad (200 + 10 * (4 * i + q) + 1)), .int (g (200 + 10 * (4 * i + q)) 1), .ref (ad (200 + 10 * (4 * i + q) + 2)), va_rf (fR ad (g (200 + 10 * (4 * i + q)) 3)), .int (g (200 + 10 * (4 * i + q)) 4), .int (g (200 + 10 * (4 * i + q)) 5)])) := cx_Lr 0 hn hi h6 hm hq h4 (by omega)
theorem cx_Ll {Y : Yc} {ad : Nat → Nat} {df : Nat} {g : MG} {i q n m : Nat} (hn : g 32 2 = nI n) (hi : i < n) (h6 : n ≤ 6) (hm : g (101 + 10 * i) 2 = nI m) (hq : q < m) (h4 : m ≤ 4) : cx Y ad df g (200 + 10 * (4 * i + q) + 1) = some (.inl (Y.1, 8, .inl (g (200 + 10 * (4 * i + q) + 1)))) := cx_Lr 1 hn hi h6 hm hq h4 (by omega)
theorem cx_Lt {Y : Yc} {ad : Nat → Nat} {df : Nat} {g : MG} {i q n m : Nat} (hn : g 32 2 = nI n) (hi : i < n) (h6 : n ≤ 6) (hm : g (101 + 10 * i) 2 = nI m) (hq : q < m) (h4 : m ≤ 4) : cx Y ad df g (200 + 10 * (4 * i + q) + 2) = some (.inl (Y.1, 10, .inl (g (200 + 10 * (4 * i + q) + 2)))) := cx_Lr 2 hn hi h6 hm hq h4 (by omega)
-- THE LOCALS: a list by place
def asc (lo : Lo) : List (Nat × Value) := (List.range lo.length).filterMap (fun i => match lo[i]? with | some (some v) => some (i, v) | _ => none)
theorem asc_mem {lo : Lo} {i : Nat} {v : Value} : (i, v) ∈ asc lo ↔ lo[i]? = some (some v) := by
  unfold asc
  rw [List.mem_filterMap]
  constructor
  · rintro ⟨j, -, h⟩
    split at h
    · next w hw => cases h; exact hw
    · cases h
  · intro h
    refine ⟨i, List.mem_range.mpr (List.getElem?_eq_some_iff.mp h).1, ?_⟩
    rw [h]
def Lv (ls : Array Slot) (nL : Nat) (lo : Lo) : Prop := lo.length ≤ nL ∧ lv_has ls nL (asc lo)
theorem Lv.at {ls : Array Slot} {nL : Nat} {lo : Lo} (h : Lv ls nL lo) {i : Nat} {v : Value} (hv : lo[i]? = some (some v)) : ls[i]? = some (.val v) := h.2.2.2 (i, v) (asc_mem.mpr hv)
def ck1 (lo : Lo) (i : Nat) : Bool := match i with
  | 0 => true
  | k + 1 => match lo[k]? with
    | some (some (.long _)) => false
    | some (some (.double _)) => false
    | _ => true
theorem ck1_cat {lo : Lo} {k : Nat} {v : Value} (h : ck1 lo (k + 1) = true) (hv : lo[k]? = some (some v)) : v.category = 1 := by
  cases v <;> first | rfl | (simp [ck1, hv] at h)
theorem Lv.st1 {ls : Array Slot} {nL : Nat} {lo : Lo} {i : Nat} {v : Value} (hlen : lo.length ≤ nL) (hi : i < lo.length) (hck : ck1 lo i = true) (h : lv_has ls nL ((i, v) :: (asc lo).filter (fun q => !(q.1 == i) && !(q.1 + 1 == i && q.2.category == 2)))) : Lv ls nL (lo.set i (some v)) := by
  refine ⟨by rw [List.length_set]; exact hlen, h.1, h.2.1, fun q hq => ?_⟩
  obtain ⟨j, w⟩ := q
  have hq' := asc_mem.mp hq
  by_cases hj : j = i
  · subst hj
    rw [List.getElem?_set_self hi] at hq'
    cases hq'
    exact h.2.2 (j, v) List.mem_cons_self
  · rw [List.getElem?_set_ne (Ne.symm hj)] at hq'
    refine h.2.2 (j, w) (List.mem_cons_of_mem _ (List.mem_filter.mpr ⟨asc_mem.mpr hq', ?_⟩))
    have c2 : ¬ (j + 1 = i ∧ w.category = 2) := by
      rintro ⟨h1, h2⟩
      subst h1
      rw [ck1_cat hck hq'] at h2
      cases h2
    simp only [Bool.and_eq_true, Bool.not_eq_true', beq_eq_false_iff_ne, ne_eq, Bool.and_eq_false_iff]
    refine ⟨hj, ?_⟩
    by_cases h1 : j + 1 = i
    · exact Or.inr fun h2 => c2 ⟨h1, h2⟩
    · exact Or.inl h1
theorem Lv.st2 {ls : Array Slot} {nL : Nat} {lo : Lo} {i : Nat} {v : Value} (hlen : lo.length ≤ nL) (hi : i + 1 < lo.length) (hck : ck1 lo i = true) (h : lv_has ls nL ((i, v) :: (asc lo).filter (fun q => !(q.1 == i) && (!(q.1 == i + 1) && !(q.1 + 1 == i && q.2.category == 2))))) : Lv ls nL ((lo.set i (some v)).set (i + 1) none) := by
  refine ⟨by rw [List.length_set, List.length_set]; exact hlen, h.1, h.2.1, fun q hq => ?_⟩
  obtain ⟨j, w⟩ := q
  have hq' := asc_mem.mp hq
  by_cases hj1 : j = i + 1
  · subst hj1
    rw [List.getElem?_set_self (by rw [List.length_set]; exact hi)] at hq'
    cases hq'
  · rw [List.getElem?_set_ne (Ne.symm hj1)] at hq'
    by_cases hj : j = i
    · subst hj
      rw [List.getElem?_set_self (by omega)] at hq'
      cases hq'
      exact h.2.2 (j, v) List.mem_cons_self
    · rw [List.getElem?_set_ne (Ne.symm hj)] at hq'
      refine h.2.2 (j, w) (List.mem_cons_of_mem _ (List.mem_filter.mpr ⟨asc_mem.mpr hq', ?_⟩))
      have c2 : ¬ (j + 1 = i ∧ w.category = 2) := by
        rintro ⟨h1, h2⟩
        subst h1
        rw [ck1_cat hck hq'] at h2
        cases h2
      simp only [Bool.and_eq_true, Bool.not_eq_true', beq_eq_false_iff_ne, ne_eq, Bool.and_eq_false_iff]
      refine ⟨hj, hj1, ?_⟩
      by_cases h1 : j + 1 = i
      · exact Or.inr fun h2 => c2 ⟨h1, h2⟩
      · exact Or.inl h1
end
section
/-! THE WALK over the world: V, its rows -/
def tyY (Y : Yc) : List (ClassId × FieldType) := [(Y.1, .int), (Y.2.1, .object "java/lang/Object"), (Y.2.2, .long)]
def ALn : String := "java/util/ArrayList"
def DEn : String := "DEFAULTCAPACITY_EMPTY_ELEMENTDATA"
def DEd : String := "[Ljava/lang/Object;"
/-- what stays: the statics, read at the start -/
def Sta (z df : Nat) (U : State) (H : Heap) : Prop := va_Z ALn DEn DEd (.ref df) (A0 z) U H ∧ va_T (.object "java/lang/Object") df 0 (fun _ => .null) (A0 z) U H ∧ vx_Zq Bundle.tN "UNASSIGNED_STACK" Bundle.steD (A0 z) U H ∧ vx_Zq Bundle.tN "SUPPRESSED_SENTINEL" Bundle.listD (A0 z) U H
theorem Sta.moved {z df : Nat} {u U : State} {H : Heap} (hvm : u.vm.Alike U.vm) (h : Sta z df u H) : Sta z df U H := ⟨h.1.moved hvm, h.2.1.moved hvm, h.2.2.1.moved hvm, h.2.2.2.moved hvm⟩
theorem Sta.kept {z df : Nat} {U : State} {H H1 : Heap} (h : Sta z df U H) (hq : ∀ a : Nat, a < H.size → ¬ A0 z a → H1[a]? = H[a]?) : Sta z df U H1 := ⟨h.1.kept hq, h.2.1.kept hq, h.2.2.1.kept hq, h.2.2.2.kept hq⟩
/-- the constants of a claim: classes, arrays' classes, addresses, the empty row, the first new cell -/
abbrev Zc : Type := va_G × Yc × (Nat → Nat) × Nat × Nat
abbrev Zc.D (Z : Zc) : va_G := Z.1
abbrev Zc.Y (Z : Zc) : Yc := Z.2.1
abbrev Zc.ad (Z : Zc) : Nat → Nat := Z.2.2.1
abbrev Zc.df (Z : Zc) : Nat := Z.2.2.2.1
abbrev Zc.z (Z : Zc) : Nat := Z.2.2.2.2
def HwZ (Z : Zc) (g : MG) (H : Heap) : Prop := Hw Z.D Z.Y Z.ad Z.df Z.z g H
def Wd (Z : Zc) (g : MG) (U : State) : Prop := HwZ Z g U.heap ∧ va_K Z.D vwCl (tyY Z.Y) U ∧ Z.z ≤ U.heap.size ∧ Sta Z.z Z.df U U.heap
abbrev Pm : Type := Program × Launch × Env × State × MethodId × Array Value × List Frame × Method × Code × (State → Prop) × Nat
def V (P : Pm) (R : Room) (Z : Zc) (lo : Lo) (pc : Nat) (st : List Value) (g : MG) (cs sl : Nat) : Prop := match P with
  | (p, l, e, s, m, args, below, meth, c, Q, nL) => ∀ (ls : Array Slot) (H : Heap) (locs : List Loc), Lv ls nL lo → HwZ Z g H → va_S (A0 Z.z) s.heap H locs → W p l e R s m args below meth c H locs cs sl Q (F0 m pc ls st)
def Cx (P : Pm) (Z : Zc) (cc : ByteArray) (own : String) : Prop := match P with
  | (p, _, _, s, m, args, _, meth, c, _, nL) => p.tables.exec = Jvm.exec ∧ c.code = cc ∧ c.maxLocals = nL ∧ s.vm.findClass own = some m.cls ∧ (∀ w ∈ wsG, w.before args s = true) ∧ va_K Z.D vwCl (tyY Z.Y) s ∧ Z.z ≤ s.heap.size ∧ meth.locks = false ∧ Sta Z.z Z.df s s.heap
abbrev nLP (P : Pm) : Nat := P.2.2.2.2.2.2.2.2.2.2
theorem A0_new {z : Nat} {H0 H : Heap} {locs : List Loc} (hz : z ≤ H0.size) (hS : va_S (A0 z) H0 H locs) {q : Nat} (h : H.size ≤ q) : A0 z q := Nat.le_trans hz (Nat.le_trans hS.1 h)
section VR
variable {P : Pm} {R : Room} {Z : Zc} {cc : ByteArray} {own : String} {lo : Lo} {pc : Nat} {rest : List Value} {g : MG} {cs sl : Nat}
theorem v_eq {lo' : Lo} {pc' : Nat} {st st' : List Value} {g' : MG} (k : V P R Z lo' pc' st' g' cs sl) (h1 : lo = lo') (h2 : pc = pc') (h3 : st = st') (h4 : g = g') : V P R Z lo pc st g cs sl := by subst h1; subst h2; subst h3; subst h4; exact k
theorem v_wide {k n : Nat} {st : List Value} (h1 : cs ≤ k) (h2 : sl ≤ n) (kk : V P R Z lo pc st g k n) : V P R Z lo pc st g cs sl := by
  obtain ⟨p, l, e, s, m, args, below, meth, c, Q, nL⟩ := P
  exact fun ls H locs hl hw hS => W.widen h1 h2 (kk ls H locs hl hw hS)
theorem v_iconst (C : Cx P Z cc own) {n : Int} {v : Int32} (hdg : decode cc pc = .ok (.iconst n, 1)) (hv : Int32.ofInt n = v) (k : V P R Z lo (pc + 1) (.int v :: rest) g cs sl) : V P R Z lo pc rest g cs sl := by
  obtain ⟨p, l, e, s, m, args, below, meth, c, Q, nL⟩ := P
  exact fun ls H locs hl hw hS => lv_iconst C.1 C.2.1 hdg hv (k ls H locs hl hw hS)
theorem v_bipush (C : Cx P Z cc own) {n : Int} {v : Int32} (hdg : decode cc pc = .ok (.bipush n, 2)) (hv : (Int8.ofInt n).toInt32 = v) (k : V P R Z lo (pc + 2) (.int v :: rest) g cs sl) : V P R Z lo pc rest g cs sl := by
  obtain ⟨p, l, e, s, m, args, below, meth, c, Q, nL⟩ := P
  exact fun ls H locs hl hw hS => lv_bipush C.1 C.2.1 hdg hv (k ls H locs hl hw hS)
theorem v_sipush (C : Cx P Z cc own) {n : Int} {v : Int32} (hdg : decode cc pc = .ok (.sipush n, 3)) (hv : (Int16.ofInt n).toInt32 = v) (k : V P R Z lo (pc + 3) (.int v :: rest) g cs sl) : V P R Z lo pc rest g cs sl := by
  obtain ⟨p, l, e, s, m, args, below, meth, c, Q, nL⟩ := P
  exact fun ls H locs hl hw hS => lv_sipush C.1 C.2.1 hdg hv (k ls H locs hl hw hS)
theorem v_ldc (C : Cx P Z cc own) {i : Nat} {v : Int32} (hw0 : Cond.constant own i v ∈ wsG) (hdg : decode cc pc = .ok (.ldc i, 2)) (k : V P R Z lo (pc + 2) (.int v :: rest) g cs sl) : V P R Z lo pc rest g cs sl := by
  obtain ⟨p, l, e, s, m, args, below, meth, c, Q, nL⟩ := P
  exact fun ls H locs hl hw hS => lv_ldc C.1 C.2.1 C.2.2.2.1 (C.2.2.2.2.1 _ hw0) hdg (k ls H locs hl hw hS)
theorem v_ldc2 (C : Cx P Z cc own) {i : Nat} {v : Int64} (hw0 : Cond.constantLong own i v ∈ wsG) (hdg : decode cc pc = .ok (.ldc2_w i, 3)) (k : V P R Z lo (pc + 3) (.long v :: rest) g cs sl) : V P R Z lo pc rest g cs sl := by
  obtain ⟨p, l, e, s, m, args, below, meth, c, Q, nL⟩ := P
  exact fun ls H locs hl hw hS => lv_ldc2 C.1 C.2.1 C.2.2.2.1 (C.2.2.2.2.1 _ hw0) hdg (k ls H locs hl hw hS)
theorem v_iload_n (C : Cx P Z cc own) {k : Fin 4} {i : Nat} {x : Int32} (hdg : decode cc pc = .ok (.iload_n k, 1)) (hi : (k : Nat) = i) (hl0 : lo[i]? = some (some (.int x))) (kk : V P R Z lo (pc + 1) (.int x :: rest) g cs sl) : V P R Z lo pc rest g cs sl := by
  obtain ⟨p, l, e, s, m, args, below, meth, c, Q, nL⟩ := P
  exact fun ls H locs hl hw hS => lv_iload_n C.1 C.2.1 hdg hi (hl.at hl0) (kk ls H locs hl hw hS)
theorem v_iload (C : Cx P Z cc own) {i : Nat} {x : Int32} (hdg : decode cc pc = .ok (.iload i, 2)) (hl0 : lo[i]? = some (some (.int x))) (kk : V P R Z lo (pc + 2) (.int x :: rest) g cs sl) : V P R Z lo pc rest g cs sl := by
  obtain ⟨p, l, e, s, m, args, below, meth, c, Q, nL⟩ := P
  exact fun ls H locs hl hw hS => lv_iload C.1 C.2.1 hdg (hl.at hl0) (kk ls H locs hl hw hS)
theorem v_aload_n (C : Cx P Z cc own) {k : Fin 4} {i : Nat} {x : Nat} (hdg : decode cc pc = .ok (.aload_n k, 1)) (hi : (k : Nat) = i) (hl0 : lo[i]? = some (some (.ref x))) (kk : V P R Z lo (pc + 1) (.ref x :: rest) g cs sl) : V P R Z lo pc rest g cs sl := by
  obtain ⟨p, l, e, s, m, args, below, meth, c, Q, nL⟩ := P
  exact fun ls H locs hl hw hS => lv_aload_n C.1 C.2.1 hdg hi (hl.at hl0) (kk ls H locs hl hw hS)
theorem v_aload (C : Cx P Z cc own) {i : Nat} {x : Nat} (hdg : decode cc pc = .ok (.aload i, 2)) (hl0 : lo[i]? = some (some (.ref x))) (kk : V P R Z lo (pc + 2) (.ref x :: rest) g cs sl) : V P R Z lo pc rest g cs sl := by
  obtain ⟨p, l, e, s, m, args, below, meth, c, Q, nL⟩ := P
  exact fun ls H locs hl hw hS => lv_aload C.1 C.2.1 hdg (hl.at hl0) (kk ls H locs hl hw hS)
theorem v_istore_n (C : Cx P Z cc own) {k : Fin 4} {i : Nat} {x : Int32} {lo' : Lo} (hdg : decode cc pc = .ok (.istore_n k, 1)) (hi : (k : Nat) = i) (hlt : i < lo.length) (hck : ck1 lo i = true) (he : lo.set i (some (.int x)) = lo') (kk : V P R Z lo' (pc + 1) rest g cs sl) : V P R Z lo pc (.int x :: rest) g cs sl := by
  obtain ⟨p, l, e, s, m, args, below, meth, c, Q, nL⟩ := P
  subst he
  exact fun ls H locs hl hw hS => lv_istore_n C.1 C.2.1 hdg hi hl.2 (Nat.lt_of_lt_of_le hlt hl.1) rfl (fun ls' h' => kk ls' H locs (Lv.st1 hl.1 hlt hck h') hw hS)
theorem v_istore (C : Cx P Z cc own) {i : Nat} {x : Int32} {lo' : Lo} (hdg : decode cc pc = .ok (.istore i, 2)) (hlt : i < lo.length) (hck : ck1 lo i = true) (he : lo.set i (some (.int x)) = lo') (kk : V P R Z lo' (pc + 2) rest g cs sl) : V P R Z lo pc (.int x :: rest) g cs sl := by
  obtain ⟨p, l, e, s, m, args, below, meth, c, Q, nL⟩ := P
  subst he
  exact fun ls H locs hl hw hS => lv_istore C.1 C.2.1 hdg hl.2 (Nat.lt_of_lt_of_le hlt hl.1) rfl (fun ls' h' => kk ls' H locs (Lv.st1 hl.1 hlt hck h') hw hS)
theorem v_astore_n (C : Cx P Z cc own) {k : Fin 4} {i : Nat} {x : Nat} {lo' : Lo} (hdg : decode cc pc = .ok (.astore_n k, 1)) (hi : (k : Nat) = i) (hlt : i < lo.length) (hck : ck1 lo i = true) (he : lo.set i (some (.ref x)) = lo') (kk : V P R Z lo' (pc + 1) rest g cs sl) : V P R Z lo pc (.ref x :: rest) g cs sl := by
  obtain ⟨p, l, e, s, m, args, below, meth, c, Q, nL⟩ := P
  subst he
  exact fun ls H locs hl hw hS => lv_astore_n C.1 C.2.1 hdg hi hl.2 (Nat.lt_of_lt_of_le hlt hl.1) rfl (fun ls' h' => kk ls' H locs (Lv.st1 hl.1 hlt hck h') hw hS)
theorem v_astore (C : Cx P Z cc own) {i : Nat} {x : Nat} {lo' : Lo} (hdg : decode cc pc = .ok (.astore i, 2)) (hlt : i < lo.length) (hck : ck1 lo i = true) (he : lo.set i (some (.ref x)) = lo') (kk : V P R Z lo' (pc + 2) rest g cs sl) : V P R Z lo pc (.ref x :: rest) g cs sl := by
  obtain ⟨p, l, e, s, m, args, below, meth, c, Q, nL⟩ := P
  subst he
  exact fun ls H locs hl hw hS => lv_astore C.1 C.2.1 hdg hl.2 (Nat.lt_of_lt_of_le hlt hl.1) rfl (fun ls' h' => kk ls' H locs (Lv.st1 hl.1 hlt hck h') hw hS)
theorem v_iinc (C : Cx P Z cc own) {i : Nat} {n : Int} {x v : Int32} {lo' : Lo} (hdg : decode cc pc = .ok (.iinc i n, 3)) (hl0 : lo[i]? = some (some (.int x))) (hv : x + Int32.ofInt n = v) (hck : ck1 lo i = true) (he : lo.set i (some (.int v)) = lo') (kk : V P R Z lo' (pc + 3) rest g cs sl) : V P R Z lo pc rest g cs sl := by
  obtain ⟨p, l, e, s, m, args, below, meth, c, Q, nL⟩ := P
  subst he
  have hlt : i < lo.length := (List.getElem?_eq_some_iff.mp hl0).1
  intro ls H locs hl hw hS
  obtain ⟨k, hk⟩ := List.getElem?_of_mem (asc_mem.mpr hl0)
  exact lv_iinc C.1 C.2.1 hdg hl.2 hk hv (Nat.lt_of_lt_of_le hlt hl.1) rfl (fun ls' h' => kk ls' H locs (Lv.st1 hl.1 hlt hck h') hw hS)
theorem v_iadd (C : Cx P Z cc own) {x y : Int32} (hdg : decode cc pc = .ok (.iadd, 1)) (kk : V P R Z lo (pc + 1) (.int (x + y) :: rest) g cs sl) : V P R Z lo pc (.int y :: .int x :: rest) g cs sl := by
  obtain ⟨p, l, e, s, m, args, below, meth, c, Q, nL⟩ := P
  exact fun ls H locs hl hw hS => lv_iadd C.1 C.2.1 hdg (kk ls H locs hl hw hS)
theorem v_isub (C : Cx P Z cc own) {x y : Int32} (hdg : decode cc pc = .ok (.isub, 1)) (kk : V P R Z lo (pc + 1) (.int (x - y) :: rest) g cs sl) : V P R Z lo pc (.int y :: .int x :: rest) g cs sl := by
  obtain ⟨p, l, e, s, m, args, below, meth, c, Q, nL⟩ := P
  exact fun ls H locs hl hw hS => lv_isub C.1 C.2.1 hdg (kk ls H locs hl hw hS)
theorem v_imul (C : Cx P Z cc own) {x y : Int32} (hdg : decode cc pc = .ok (.imul, 1)) (kk : V P R Z lo (pc + 1) (.int (x * y) :: rest) g cs sl) : V P R Z lo pc (.int y :: .int x :: rest) g cs sl := by
  obtain ⟨p, l, e, s, m, args, below, meth, c, Q, nL⟩ := P
  exact fun ls H locs hl hw hS => lv_imul C.1 C.2.1 hdg (kk ls H locs hl hw hS)
theorem v_idiv (C : Cx P Z cc own) {x y : Int32} (hdg : decode cc pc = .ok (.idiv, 1)) (hne : ¬ y = 0) (kk : V P R Z lo (pc + 1) (.int (x / y) :: rest) g cs sl) : V P R Z lo pc (.int y :: .int x :: rest) g cs sl := by
  obtain ⟨p, l, e, s, m, args, below, meth, c, Q, nL⟩ := P
  exact fun ls H locs hl hw hS => lv_idiv C.1 C.2.1 hdg hne (kk ls H locs hl hw hS)
theorem v_irem (C : Cx P Z cc own) {x y : Int32} (hdg : decode cc pc = .ok (.irem, 1)) (hne : ¬ y = 0) (kk : V P R Z lo (pc + 1) (.int (x - x / y * y) :: rest) g cs sl) : V P R Z lo pc (.int y :: .int x :: rest) g cs sl := by
  obtain ⟨p, l, e, s, m, args, below, meth, c, Q, nL⟩ := P
  exact fun ls H locs hl hw hS => lv_irem C.1 C.2.1 hdg hne (kk ls H locs hl hw hS)
theorem v_goto (C : Cx P Z cc own) {off : Int} {tgt : Nat} {st : List Value} (hdg : decode cc pc = .ok (.goto off, 3)) (ht : (pc : Int) + off = (tgt : Int)) (kk : V P R Z lo tgt st g cs sl) : V P R Z lo pc st g cs sl := by
  obtain ⟨p, l, e, s, m, args, below, meth, c, Q, nL⟩ := P
  exact fun ls H locs hl hw hS => lv_goto C.1 C.2.1 hdg ht (kk ls H locs hl hw hS)
theorem v_dup (C : Cx P Z cc own) {v : Value} (hdg : decode cc pc = .ok (.dup, 1)) (hv : v.category = 1) (kk : V P R Z lo (pc + 1) (v :: v :: rest) g cs sl) : V P R Z lo pc (v :: rest) g cs sl := by
  obtain ⟨p, l, e, s, m, args, below, meth, c, Q, nL⟩ := P
  exact fun ls H locs hl hw hS => lv_dup C.1 C.2.1 hdg hv (kk ls H locs hl hw hS)
theorem v_pop (C : Cx P Z cc own) {v : Value} (hdg : decode cc pc = .ok (.pop, 1)) (hv : v.category = 1) (kk : V P R Z lo (pc + 1) rest g cs sl) : V P R Z lo pc (v :: rest) g cs sl := by
  obtain ⟨p, l, e, s, m, args, below, meth, c, Q, nL⟩ := P
  exact fun ls H locs hl hw hS => lv_pop C.1 C.2.1 hdg hv (kk ls H locs hl hw hS)
theorem v_if_eq (C : Cx P Z cc own) {x : Int32} {off : Int} {tgt : Nat} (hdg : decode cc pc = .ok (.ifCond .eq off, 3)) (ht : (pc : Int) + off = (tgt : Int)) (kt : x = 0 → V P R Z lo tgt rest g cs sl) (kf : ¬ x = 0 → V P R Z lo (pc + 3) rest g cs sl) : V P R Z lo pc (.int x :: rest) g cs sl := by
  obtain ⟨p, l, e, s, m, args, below, meth, c, Q, nL⟩ := P
  exact fun ls H locs hl hw hS => lv_if_eq C.1 C.2.1 hdg ht (fun h => kt h ls H locs hl hw hS) (fun h => kf h ls H locs hl hw hS)
theorem v_icmp_eq (C : Cx P Z cc own) {x y : Int32} {off : Int} {tgt : Nat} (hdg : decode cc pc = .ok (.if_icmp .eq off, 3)) (ht : (pc : Int) + off = (tgt : Int)) (kt : x = y → V P R Z lo tgt rest g cs sl) (kf : ¬ x = y → V P R Z lo (pc + 3) rest g cs sl) : V P R Z lo pc (.int y :: .int x :: rest) g cs sl := by
  obtain ⟨p, l, e, s, m, args, below, meth, c, Q, nL⟩ := P
  exact fun ls H locs hl hw hS => lv_icmp_eq C.1 C.2.1 hdg ht (fun h => kt h ls H locs hl hw hS) (fun h => kf h ls H locs hl hw hS)
theorem v_if_ne (C : Cx P Z cc own) {x : Int32} {off : Int} {tgt : Nat} (hdg : decode cc pc = .ok (.ifCond .ne off, 3)) (ht : (pc : Int) + off = (tgt : Int)) (kt : ¬ x = 0 → V P R Z lo tgt rest g cs sl) (kf : x = 0 → V P R Z lo (pc + 3) rest g cs sl) : V P R Z lo pc (.int x :: rest) g cs sl := by
  obtain ⟨p, l, e, s, m, args, below, meth, c, Q, nL⟩ := P
  exact fun ls H locs hl hw hS => lv_if_ne C.1 C.2.1 hdg ht (fun h => kt h ls H locs hl hw hS) (fun h => kf h ls H locs hl hw hS)
theorem v_icmp_ne (C : Cx P Z cc own) {x y : Int32} {off : Int} {tgt : Nat} (hdg : decode cc pc = .ok (.if_icmp .ne off, 3)) (ht : (pc : Int) + off = (tgt : Int)) (kt : ¬ x = y → V P R Z lo tgt rest g cs sl) (kf : x = y → V P R Z lo (pc + 3) rest g cs sl) : V P R Z lo pc (.int y :: .int x :: rest) g cs sl := by
  obtain ⟨p, l, e, s, m, args, below, meth, c, Q, nL⟩ := P
  exact fun ls H locs hl hw hS => lv_icmp_ne C.1 C.2.1 hdg ht (fun h => kt h ls H locs hl hw hS) (fun h => kf h ls H locs hl hw hS)
theorem v_if_lt (C : Cx P Z cc own) {x : Int32} {off : Int} {tgt : Nat} (hdg : decode cc pc = .ok (.ifCond .lt off, 3)) (ht : (pc : Int) + off = (tgt : Int)) (kt : x < 0 → V P R Z lo tgt rest g cs sl) (kf : ¬ x < 0 → V P R Z lo (pc + 3) rest g cs sl) : V P R Z lo pc (.int x :: rest) g cs sl := by
  obtain ⟨p, l, e, s, m, args, below, meth, c, Q, nL⟩ := P
  exact fun ls H locs hl hw hS => lv_if_lt C.1 C.2.1 hdg ht (fun h => kt h ls H locs hl hw hS) (fun h => kf h ls H locs hl hw hS)
theorem v_icmp_lt (C : Cx P Z cc own) {x y : Int32} {off : Int} {tgt : Nat} (hdg : decode cc pc = .ok (.if_icmp .lt off, 3)) (ht : (pc : Int) + off = (tgt : Int)) (kt : x < y → V P R Z lo tgt rest g cs sl) (kf : ¬ x < y → V P R Z lo (pc + 3) rest g cs sl) : V P R Z lo pc (.int y :: .int x :: rest) g cs sl := by
  obtain ⟨p, l, e, s, m, args, below, meth, c, Q, nL⟩ := P
  exact fun ls H locs hl hw hS => lv_icmp_lt C.1 C.2.1 hdg ht (fun h => kt h ls H locs hl hw hS) (fun h => kf h ls H locs hl hw hS)
theorem v_if_ge (C : Cx P Z cc own) {x : Int32} {off : Int} {tgt : Nat} (hdg : decode cc pc = .ok (.ifCond .ge off, 3)) (ht : (pc : Int) + off = (tgt : Int)) (kt : 0 ≤ x → V P R Z lo tgt rest g cs sl) (kf : ¬ 0 ≤ x → V P R Z lo (pc + 3) rest g cs sl) : V P R Z lo pc (.int x :: rest) g cs sl := by
  obtain ⟨p, l, e, s, m, args, below, meth, c, Q, nL⟩ := P
  exact fun ls H locs hl hw hS => lv_if_ge C.1 C.2.1 hdg ht (fun h => kt h ls H locs hl hw hS) (fun h => kf h ls H locs hl hw hS)
theorem v_icmp_ge (C : Cx P Z cc own) {x y : Int32} {off : Int} {tgt : Nat} (hdg : decode cc pc = .ok (.if_icmp .ge off, 3)) (ht : (pc : Int) + off = (tgt : Int)) (kt : y ≤ x → V P R Z lo tgt rest g cs sl) (kf : ¬ y ≤ x → V P R Z lo (pc + 3) rest g cs sl) : V P R Z lo pc (.int y :: .int x :: rest) g cs sl := by
  obtain ⟨p, l, e, s, m, args, below, meth, c, Q, nL⟩ := P
  exact fun ls H locs hl hw hS => lv_icmp_ge C.1 C.2.1 hdg ht (fun h => kt h ls H locs hl hw hS) (fun h => kf h ls H locs hl hw hS)
theorem v_if_gt (C : Cx P Z cc own) {x : Int32} {off : Int} {tgt : Nat} (hdg : decode cc pc = .ok (.ifCond .gt off, 3)) (ht : (pc : Int) + off = (tgt : Int)) (kt : 0 < x → V P R Z lo tgt rest g cs sl) (kf : ¬ 0 < x → V P R Z lo (pc + 3) rest g cs sl) : V P R Z lo pc (.int x :: rest) g cs sl := by
  obtain ⟨p, l, e, s, m, args, below, meth, c, Q, nL⟩ := P
  exact fun ls H locs hl hw hS => lv_if_gt C.1 C.2.1 hdg ht (fun h => kt h ls H locs hl hw hS) (fun h => kf h ls H locs hl hw hS)
theorem v_icmp_gt (C : Cx P Z cc own) {x y : Int32} {off : Int} {tgt : Nat} (hdg : decode cc pc = .ok (.if_icmp .gt off, 3)) (ht : (pc : Int) + off = (tgt : Int)) (kt : y < x → V P R Z lo tgt rest g cs sl) (kf : ¬ y < x → V P R Z lo (pc + 3) rest g cs sl) : V P R Z lo pc (.int y :: .int x :: rest) g cs sl := by
  obtain ⟨p, l, e, s, m, args, below, meth, c, Q, nL⟩ := P
  exact fun ls H locs hl hw hS => lv_icmp_gt C.1 C.2.1 hdg ht (fun h => kt h ls H locs hl hw hS) (fun h => kf h ls H locs hl hw hS)
theorem v_if_le (C : Cx P Z cc own) {x : Int32} {off : Int} {tgt : Nat} (hdg : decode cc pc = .ok (.ifCond .le off, 3)) (ht : (pc : Int) + off = (tgt : Int)) (kt : x ≤ 0 → V P R Z lo tgt rest g cs sl) (kf : ¬ x ≤ 0 → V P R Z lo (pc + 3) rest g cs sl) : V P R Z lo pc (.int x :: rest) g cs sl := by
  obtain ⟨p, l, e, s, m, args, below, meth, c, Q, nL⟩ := P
  exact fun ls H locs hl hw hS => lv_if_le C.1 C.2.1 hdg ht (fun h => kt h ls H locs hl hw hS) (fun h => kf h ls H locs hl hw hS)
theorem v_icmp_le (C : Cx P Z cc own) {x y : Int32} {off : Int} {tgt : Nat} (hdg : decode cc pc = .ok (.if_icmp .le off, 3)) (ht : (pc : Int) + off = (tgt : Int)) (kt : x ≤ y → V P R Z lo tgt rest g cs sl) (kf : ¬ x ≤ y → V P R Z lo (pc + 3) rest g cs sl) : V P R Z lo pc (.int y :: .int x :: rest) g cs sl := by
  obtain ⟨p, l, e, s, m, args, below, meth, c, Q, nL⟩ := P
  exact fun ls H locs hl hw hS => lv_icmp_le C.1 C.2.1 hdg ht (fun h => kt h ls H locs hl hw hS) (fun h => kf h ls H locs hl hw hS)
theorem v_get (C : Cx P Z cc own) {Cn : String} {T : u_T} {N ci index : Nat} (hin : ∀ w ∈ u_ws Cn T N, w ∈ wsG) (hc : vwCl[ci]? = some (Cn, T, N)) (j : Nat) (hj : j < N) (hlink : Cond.fieldLink own index Cn (T j).2.1 (T j).2.2.1 ∈ wsG) (hsame : (T j).1 = Cn) {k : Nat} {fs : List Value} (hk : cx Z.Y Z.ad Z.df g k = some (.inr (ci, fs))) {v : Value} (hv : fs[j]? = some v) (hdg : decode cc pc = .ok (.getfield index, 3)) (kk : V P R Z lo (pc + 3) (v :: rest) g cs sl) : V P R Z lo pc (.ref (Z.ad k) :: rest) g cs sl := by
  obtain ⟨p, l, e, s, m, args, below, meth, c, Q, nL⟩ := P
  intro ls H locs hl hw hS
  have hP : va_P Z.D vwCl [(Z.ad k, .inr (ci, fs))] H := by
    intro i q hq
    rcases List.mem_singleton.mp (List.mem_of_getElem? hq) with rfl
    exact (hw.1 k _ hk).1
  exact va_get (D := Z.D) (ref := Cn) C.1 C.2.1 C.2.2.2.2.1 hin C.2.2.2.1 C.2.2.2.2.2.1 hP 0 rfl hc j hj (C.2.2.2.2.1 _ hlink) (fun x h => by rw [hsame] at h; exact h) hv hdg (kk ls H locs hl hw hS)
theorem v_put (C : Cx P Z cc own) {Cn : String} {T : u_T} {N ci index : Nat} (hin : ∀ w ∈ u_ws Cn T N, w ∈ wsG) (hc : vwCl[ci]? = some (Cn, T, N)) (ty0 : Nat → FieldType) (hty : ∀ k, k < N → parseFieldDescriptor (T k).2.2.1 = some (ty0 k)) (hnm : ∀ a, a < N → ∀ b, b < N → a ≠ b → (T a).2.1 ≠ (T b).2.1) (j : Nat) (hj : j < N) (hlink : Cond.fieldLink own index Cn (T j).2.1 (T j).2.2.1 ∈ wsG) (hsame : (T j).1 = Cn) (hfin : (T j).2.2.2 = false) {ty : FieldType} (hd : parseFieldDescriptor (T j).2.2.1 = some ty) {v : Value} (hn : narrow ty v = v) (hfit : fits ty v = true) {k : Nat} {fs : List Value} (hk : cx Z.Y Z.ad Z.df g k = some (.inr (ci, fs))) (hl : j < fs.length) {x : Int32} (hlk : lk k = false) (hx : j = 3 → (∀ i, i < 24 → k ≠ 200 + 10 * i) ∨ x = -1 ∨ ∃ i, g 31 2 = g 31 2 ∧ (∀ n, g 31 2 = nI n → n ≤ 5 → i < n) ∧ x = nI i)
    (hk' : cx Z.Y Z.ad Z.df (wr g k j x) k = some (.inr (ci, fs.set j v))) (hdg : decode cc pc = .ok (.putfield index, 3)) (kk : V P R Z lo (pc + 3) rest (wr g k j x) cs sl) : V P R Z lo pc (v :: .ref (Z.ad k) :: rest) g cs sl := by
  obtain ⟨p, l, e, s, m, args, below, meth, c, Q, nL⟩ := P
  intro ls H locs hll hw hS0
  have hap := va_apart (own := own) C.2.2.2.2.1 hin ty0 hty hnm C.2.2.2.2.2.1 hc
  obtain ⟨⟨r, h1, cell, q1, q2, q3, q4⟩, hza⟩ := hw.1 k _ hk
  have hr : r = (Cn, T, N) := Option.some.inj (h1.symm.trans hc)
  subst hr
  obtain ⟨hS, hfc, kC, hkC, hkind⟩ := C.2.2.2.2.2.1.1 ci _ hc
  obtain ⟨cf, kf, fi, f, hi, hsl⟩ := hS j hj
  have hlay := C.2.2.2.2.1 _ (hin _ (u_in_lay hj))
  unfold u_lay at hlay
  rw [if_neg (by rw [hfin]; decide)] at hlay
  have hst := (u_facts hfc hkC (u_lays C.2.2.2.2.1 hin hj) hi).1
  have h6 := u_store hfc hkC hkind hlay hi hd hn hfit
  refine W.putK C.1 C.2.1 (f := f) ⟨C.2.2.2.1, C.2.2.2.2.1 _ hlink, ⟨_, _, _, by rw [hsame] at hi; exact hi⟩, hst⟩ (by rw [q2]; exact h6) q1 q3 (by rw [hsl]; exact k2_hasslot (q4 j hj)) rfl rfl hdg fun H' e1 e2 e3 => ?_
  rw [hsl] at e1 ⊢
  refine kk ls H' _ hll (Hw_wr hw hlk hx hk hk' ⟨_, hc, t_OB.to (V := updV (vp_V fs) j v) ⟨_, e1, q2, q3, t_set q4 hap hj v⟩ (fun i _ => vp_updV_set hl v i)⟩ e3) (hS0.put e2 e3 hza)
theorem v_iald (C : Cx P Z cc own) {k n : Nat} (hk : cx Z.Y Z.ad Z.df g k = some (.inl (Z.Y.1, n, .inl (g k)))) {i : Int32} (hin : vp_in i n) (hdg : decode cc pc = .ok (.iaload, 1)) (kk : V P R Z lo (pc + 1) (.int (g k (iz i)) :: rest) g cs sl) : V P R Z lo pc (.int i :: .ref (Z.ad k) :: rest) g cs sl := by
  obtain ⟨p, l, e, s, m, args, below, meth, c, Q, nL⟩ := P
  intro ls H locs hl hw hS
  have hP : va_P Z.D vwCl [(Z.ad k, .inl (Z.Y.1, n, .inl (g k)))] H := by
    intro i q hq
    rcases List.mem_singleton.mp (List.mem_of_getElem? hq) with rfl
    exact (hw.1 k _ hk).1
  exact va_iald (D := Z.D) C.1 C.2.1 C.2.2.2.2.2.1 hP 0 0 rfl rfl hin hdg (kk ls H locs hl hw hS)
theorem v_iast (C : Cx P Z cc own) {k n : Nat} (hk : ∀ g' : MG, (∀ q, q ≠ k → g' q = g q) → cx Z.Y Z.ad Z.df g' k = some (.inl (Z.Y.1, n, .inl (g' k)))) (hlk : lk k = false) (hx : ∀ i, i < 24 → k ≠ 200 + 10 * i) {i x : Int32} (hin : vp_in i n) (hdg : decode cc pc = .ok (.iastore, 1)) (kk : V P R Z lo (pc + 1) rest (wr g k (iz i) x) cs sl) : V P R Z lo pc (.int x :: .int i :: .ref (Z.ad k) :: rest) g cs sl := by
  obtain ⟨p, l, e, s, m, args, below, meth, c, Q, nL⟩ := P
  intro ls H locs hl hw hS
  have hk0 := hk g (fun _ _ => rfl)
  have hk1 := hk (wr g k (iz i) x) (fun q hq => wr_row g k (iz i) x hq)
  have ha : va_at Z.D vwCl (Z.ad k, .inl (Z.Y.1, n, .inl (g k))) H := (hw.1 k _ hk0).1
  refine W.iast C.1 C.2.1 (a := Z.ad k) ha ((C.2.2.2.2.2.1.2 0 _ rfl).1 n (fun j => .int (g k j))) (fun q => by cases q) (by show ¬ (i < 0 ∨ (arrV _ _ _).slots.size ≤ _); rw [arrV_size]; exact hin) rfl rfl hdg fun H1 e z oq => ?_
  refine kk ls H1 _ hl (Hw_wr hw hlk (fun _ => Or.inl hx) hk0 hk1 ?_ oq) (hS.put z oq (hw.1 k _ hk0).2)
  show H1[Z.ad k]? = some (vp_cell _ _)
  rw [e, wr_own]
  rw [vp_cell_i, vp_cell_i, arrV_store]
  congr 2
  funext q
  by_cases hq : q = i.toNatClampNeg
  · subst hq
    simp [updV, upd, iz]
  · simp [updV, upd, hq, iz]
theorem v_alen (C : Cx P Z cc own) {k n : Nat} (hk : cx Z.Y Z.ad Z.df g k = some (.inl (Z.Y.1, n, .inl (g k)))) {v : Int32} (hv : Int32.ofNat n = v) (hdg : decode cc pc = .ok (.arraylength, 1)) (kk : V P R Z lo (pc + 1) (.int v :: rest) g cs sl) : V P R Z lo pc (.ref (Z.ad k) :: rest) g cs sl := by
  obtain ⟨p, l, e, s, m, args, below, meth, c, Q, nL⟩ := P
  intro ls H locs hl hw hS
  have hP : va_P Z.D vwCl [(Z.ad k, .inl (Z.Y.1, n, .inl (g k)))] H := by
    intro i q hq
    rcases List.mem_singleton.mp (List.mem_of_getElem? hq) with rfl
    exact (hw.1 k _ hk).1
  exact va_alen (D := Z.D) C.1 C.2.1 C.2.2.2.2.2.1 hP 0 0 rfl rfl hv hdg (kk ls H locs hl hw hS)
end VR
-- CONTRACTS
/-- a method's words: its own code, and the law's list -/
abbrev wz (y : MethodName) (cc : ByteArray) (maxL : Nat) (ret : Option FieldType) : List Cond := Cond.code y cc maxL ret :: wsG
abbrev rmz (fr lo mc ms : Nat) : Room := { frames := fr, cells := mc, slots := ms, locals := lo }
def MI (l : Launch) (y : MethodName) (cc : ByteArray) (maxL : Nat) (ret : Option FieldType) (rm : Room) (Z : Zc) (as : List Value) (g : MG) (post : Int32 → MG → Prop) : Prop := Met l y (wz y cc maxL ret) rm (va_Pc as (fun U => Wd Z g U)) (va_Qi post (fun g' t => Wd Z g' t) (A0 Z.z)) rm.cells rm.slots (A0 Z.z)
def MV (l : Launch) (y : MethodName) (cc : ByteArray) (maxL : Nat) (rm : Room) (Z : Zc) (as : List Value) (g : MG) (post : MG → Prop) : Prop := Met l y (wz y cc maxL none) rm (va_Pc as (fun U => Wd Z g U)) (va_Qv post (fun g' t => Wd Z g' t) (A0 Z.z)) rm.cells rm.slots (A0 Z.z)
def ML (l : Launch) (y : MethodName) (cc : ByteArray) (maxL : Nat) (rm : Room) (Z : Zc) (as : List Value) (g : MG) (post : Int64 → MG → Prop) : Prop := Met l y (wz y cc maxL (some .long)) rm (va_Pc as (fun U => Wd Z g U)) (va_Ql post (fun g' t => Wd Z g' t) (A0 Z.z)) rm.cells rm.slots (A0 Z.z)
def MQ' (l : Launch) (y : MethodName) (cc : ByteArray) (maxL : Nat) (ret : Option FieldType) (rm : Room) (Z : Zc) (as : List Value) (g : MG) (post : Option Nat → MG → Prop) : Prop := Met l y (wz y cc maxL ret) rm (va_Pc as (fun U => Wd Z g U)) (va_Qq post (fun g' t => Wd Z g' t) (A0 Z.z)) rm.cells rm.slots (A0 Z.z)
def loA (l : List (Nat × Value)) (n : Nat) : Lo := (List.range n).map (fun i => (l.find? (fun q => q.1 == i)).map (·.2))
theorem Lv_of {ls : Array Slot} {n : Nat} {l : List (Nat × Value)} (h : lv_has ls n l) : Lv ls n (loA l n) := by
  refine ⟨by simp [loA], h.1, h.2.1, fun q hq => ?_⟩
  obtain ⟨i, v⟩ := q
  have h1 := asc_mem.mp hq
  simp only [loA, List.getElem?_map, Option.map_eq_some_iff] at h1
  obtain ⟨j, hj, h2⟩ := h1
  obtain ⟨q, hq2, rfl⟩ := h2
  have hji : j = i := by
    have := List.getElem?_eq_some_iff.mp hj
    obtain ⟨hl, he⟩ := this
    rw [List.getElem_range] at he
    exact he.symm
  subst hji
  have h3 := List.find?_some hq2
  have h4 := List.mem_of_find?_eq_some hq2
  have h5 : q.1 = j := by simpa using h3
  have := h.2.2 q h4
  rw [h5] at this
  exact this
theorem Wd_of {Z : Zc} {g : MG} {s t : State} {H : Heap} {locs : List Loc} (hw : HwZ Z g H) (hK : va_K Z.D vwCl (tyY Z.Y) s) (hz : Z.z ≤ s.heap.size) (hst : Sta Z.z Z.df s s.heap) (hS : va_S (A0 Z.z) s.heap H locs) (ht : t.heap = H) (hvm : s.vm.Alike t.vm) : Wd Z g t := by
  refine ⟨by rw [ht]; exact hw, va_K.moved hvm hK, by rw [ht]; exact Nat.le_trans hz hS.1, ?_⟩
  rw [ht]
  exact (hst.kept hS.2.1).moved hvm
theorem Wd_blind {Z : Zc} {g : MG} {U U' : State} (hh : U'.heap = U.heap) (hvm : U.vm.Alike U'.vm) (h : Wd Z g U) : Wd Z g U' := by
  refine ⟨by rw [hh]; exact h.1, va_K.moved hvm h.2.1, by rw [hh]; exact h.2.2.1, ?_⟩
  rw [hh]
  exact h.2.2.2.moved hvm
theorem ent_i {l : Launch} {y : MethodName} {cc : ByteArray} {maxL : Nat} {rm : Room} {Z : Zc} {as : List Value} {g : MG} {post : Int32 → MG → Prop} {own : String} {lo : Lo} (hy : plainName y.cls = true) (ho : y.cls = own) (hlen : (lg_sl as).length ≤ maxL) (hlo : loA (lv_args 0 as) maxL = lo)
    (body : ∀ P : Pm, P.2.1 = l → Cx P Z cc own → (∀ (pc : Nat) (lo' : Lo) (v : Int32) (g' : MG), decode cc pc = .ok (.ireturn, 1) → post v g' → V P rm Z lo' pc [.int v] g' rm.cells rm.slots) → V P rm Z lo 0 [] g 0 0) : MI l y cc maxL (some .int) rm Z as g post := by
  refine Met.ofW (cc := cc) (maxL := maxL) (ret := some .int) hy rfl ?_
  intro p e s m args below meth c s₁ B hml hv
  obtain ⟨rfl, hw, hK, hz, hst⟩ := hv
  have hts : ∀ w ∈ wsG, w.before as.toArray s = true := fun w h => atoms_spec (ws := wz y cc maxL (some .int)) B.pre w (List.mem_cons_of_mem _ h)
  have hown : s.vm.findClass own = some m.cls := ho ▸ findClass_of_methodNamed B.named
  have hl := lv_entry as hlen
  rw [lg_entry_eq]
  generalize (lg_sl as ++ List.replicate (maxL - (lg_sl as).length) Slot.unset).toArray = ls at hl ⊢
  refine body (p, l, e, s, m, as.toArray, below, meth, c, _, maxL) rfl ⟨B.exec, B.bytes, hml, hown, hts, hK, hz, B.notSynchronized, hst⟩ ?_ ls s.heap [] (hlo ▸ Lv_of hl) hw va_S.rf
  intro pc lo' v g' hdg hp ls H locs hl hw' hS
  exact W.iret B.exec B.bytes B.returns (fun t ht hW => ⟨⟨v, g', rfl, hp, Wd_of hw' hK hz hst hS ht hW.alike⟩, hS.F ht⟩) hS.2.2 hdg
theorem ent_z {l : Launch} {y : MethodName} {cc : ByteArray} {maxL : Nat} {rm : Room} {Z : Zc} {as : List Value} {g : MG} {post : Int32 → MG → Prop} {own : String} {lo : Lo} (hy : plainName y.cls = true) (ho : y.cls = own) (hlen : (lg_sl as).length ≤ maxL) (hlo : loA (lv_args 0 as) maxL = lo)
    (body : ∀ P : Pm, P.2.1 = l → Cx P Z cc own → (∀ (pc : Nat) (lo' : Lo) (v : Int32) (g' : MG), decode cc pc = .ok (.ireturn, 1) → (v = 0 ∨ v = 1) → post v g' → V P rm Z lo' pc [.int v] g' rm.cells rm.slots) → V P rm Z lo 0 [] g 0 0) : MI l y cc maxL (some .boolean) rm Z as g post := by
  refine Met.ofW (cc := cc) (maxL := maxL) (ret := some .boolean) hy rfl ?_
  intro p e s m args below meth c s₁ B hml hv
  obtain ⟨rfl, hw, hK, hz, hst⟩ := hv
  have hts : ∀ w ∈ wsG, w.before as.toArray s = true := fun w h => atoms_spec (ws := wz y cc maxL (some .boolean)) B.pre w (List.mem_cons_of_mem _ h)
  have hown : s.vm.findClass own = some m.cls := ho ▸ findClass_of_methodNamed B.named
  have hl := lv_entry as hlen
  rw [lg_entry_eq]
  generalize (lg_sl as ++ List.replicate (maxL - (lg_sl as).length) Slot.unset).toArray = ls at hl ⊢
  refine body (p, l, e, s, m, as.toArray, below, meth, c, _, maxL) rfl ⟨B.exec, B.bytes, hml, hown, hts, hK, hz, B.notSynchronized, hst⟩ ?_ ls s.heap [] (hlo ▸ Lv_of hl) hw va_S.rf
  intro pc lo' v g' hdg hv hp ls H locs hl hw' hS
  exact W.zret B.exec B.bytes B.returns (by rcases hv with rfl | rfl <;> rfl) (fun t ht hW => ⟨⟨v, g', rfl, hp, Wd_of hw' hK hz hst hS ht hW.alike⟩, hS.F ht⟩) hS.2.2 hdg
theorem ent_v {l : Launch} {y : MethodName} {cc : ByteArray} {maxL : Nat} {rm : Room} {Z : Zc} {as : List Value} {g : MG} {post : MG → Prop} {own : String} {lo : Lo} (hy : plainName y.cls = true) (ho : y.cls = own) (hlen : (lg_sl as).length ≤ maxL) (hlo : loA (lv_args 0 as) maxL = lo)
    (body : ∀ P : Pm, P.2.1 = l → Cx P Z cc own → (∀ (pc : Nat) (lo' : Lo) (g' : MG), decode cc pc = .ok (.return_, 1) → post g' → V P rm Z lo' pc [] g' rm.cells rm.slots) → V P rm Z lo 0 [] g 0 0) : MV l y cc maxL rm Z as g post := by
  refine Met.ofW (cc := cc) (maxL := maxL) (ret := none) hy rfl ?_
  intro p e s m args below meth c s₁ B hml hv
  obtain ⟨rfl, hw, hK, hz, hst⟩ := hv
  have hts : ∀ w ∈ wsG, w.before as.toArray s = true := fun w h => atoms_spec (ws := wz y cc maxL none) B.pre w (List.mem_cons_of_mem _ h)
  have hown : s.vm.findClass own = some m.cls := ho ▸ findClass_of_methodNamed B.named
  have hl := lv_entry as hlen
  rw [lg_entry_eq]
  generalize (lg_sl as ++ List.replicate (maxL - (lg_sl as).length) Slot.unset).toArray = ls at hl ⊢
  refine body (p, l, e, s, m, as.toArray, below, meth, c, _, maxL) rfl ⟨B.exec, B.bytes, hml, hown, hts, hK, hz, B.notSynchronized, hst⟩ ?_ ls s.heap [] (hlo ▸ Lv_of hl) hw va_S.rf
  intro pc lo' g' hdg hp ls H locs hl hw' hS
  exact W.vret B.exec B.bytes B.returns (fun t ht hW => ⟨⟨g', rfl, hp, Wd_of hw' hK hz hst hS ht hW.alike⟩, hS.F ht⟩) hS.2.2 hdg
theorem gv {own C : String} {idx : Nat} {y : MethodName} {cc : ByteArray} {maxL : Nat} {ret : Option FieldType} (h1 : Cond.methodLink own idx y ∈ wsG) (h2 : Cond.instanceMethod y ∈ wsG) (h3 : Cond.selects C y y ∈ wsG) (h4 : Cond.initialized C ∈ wsG) (h5 : Cond.code y cc maxL ret ∈ wsG) : GoodIn wsG (wsV own idx C y (wz y cc maxL ret)) := by
  intro w hw
  have : w ∈ wsG := by
    simp only [wsV, List.mem_append, List.mem_cons, List.not_mem_nil, or_false] at hw
    rcases hw with (rfl | rfl | rfl | rfl) | rfl | hw
    · exact h1
    · exact h2
    · exact h3
    · exact h4
    · exact h5
    · exact hw
  exact ⟨this, good_all this⟩
theorem gs {own : String} {idx : Nat} {y : MethodName} {cc : ByteArray} {maxL : Nat} {ret : Option FieldType} (h1 : Cond.methodLink own idx y ∈ wsG) (h2 : Cond.static y ∈ wsG) (h4 : Cond.initialized own ∈ wsG) (h5 : Cond.code y cc maxL ret ∈ wsG) : GoodIn wsG (wsS own idx y (wz y cc maxL ret)) := by
  intro w hw
  have : w ∈ wsG := by
    simp only [wsS, List.mem_append, List.mem_cons, List.not_mem_nil, or_false] at hw
    rcases hw with (rfl | rfl | rfl) | rfl | hw
    · exact h1
    · exact h2
    · exact h4
    · exact h5
    · exact hw
  exact ⟨this, good_all this⟩
theorem Wd_fb {Z : Zc} {as : List Value} {g : MG} : FrameBlind (va_Pc as (fun U => Wd Z g U)) := fun a U g' mk h => ⟨h.1, Wd_blind (U := U) (U' := U.calling g' mk a) rfl (Vm.Alike.refl U.vm) h.2⟩
section VCALL
variable {P : Pm} {R : Room} {Z : Zc} {cc : ByteArray} {own : String} {lo : Lo} {pc : Nat} {rest st : List Value} {g : MG} {cs sl : Nat}
theorem v_callVi (C : Cx P Z cc own) {y : MethodName} {cc' : ByteArray} {maxL idx n k ci N : Nat} {ret : Option FieldType} {rm' : Room} {as : List Value} {post : Int32 → MG → Prop} {Cn : String} {T : u_T} {fs : List Value} (hM : MI P.2.1 y cc' maxL ret rm' Z (.ref (Z.ad k) :: as) g post) (hG : GoodIn wsG (wsV own idx Cn y (wz y cc' maxL ret)))
    (hd : y.cls = Cn ∧ y.cls ≠ "java/lang/invoke/MethodHandle" ∧ y.cls ≠ "java/lang/invoke/VarHandle" ∧ (parseMethodDescriptor y.desc).map (fun d => d.parameters.length) = some n) (hR : rm'.frames + 1 ≤ R.frames ∧ 8 + (maxL + 11) + rm'.locals ≤ R.locals) (hc : vwCl[ci]? = some (Cn, T, N)) (hk : cx Z.Y Z.ad Z.df g k = some (.inr (ci, fs))) (hn : as.length = n) (hst : st = as.reverse ++ .ref (Z.ad k) :: rest) (hr : (rest.map fun v => v.category).sum ≤ 8) (hdg : decode cc pc = .ok (.invokevirtual idx, 3)) (hf : cs + rm'.cells ≤ R.cells ∧ sl + rm'.slots ≤ R.slots)
    (kk : ∀ (r : Int32) (g' : MG), post r g' → V P R Z lo (pc + 3) (.int r :: rest) g' (cs + rm'.cells) (sl + rm'.slots)) : V P R Z lo pc st g cs sl := by
  obtain ⟨p, l, e, s, m, args, below, meth, c, Q, nL⟩ := P
  subst hst
  intro ls H locs hl hw hS
  have hP : va_P Z.D vwCl [(Z.ad k, .inr (ci, fs))] H := by
    intro i q hq
    rcases List.mem_singleton.mp (List.mem_of_getElem? hq) with rfl
    exact (hw.1 k _ hk).1
  refine va_calli (va_runV (As := as) (rest := rest) ⟨C.1, C.2.1, C.2.2.1, C.2.2.2.1, C.2.2.2.2.1⟩ hM (cwV n C.2.2.2.2.1 hG rfl rfl rfl hd hR) ⟨Wd_fb, va_recv C.2.2.2.2.2.1 hP hc (q0 := 0) rfl, fun U hU hW => ⟨rfl, Wd_of hw C.2.2.2.2.2.1 C.2.2.2.2.2.2.1 C.2.2.2.2.2.2.2.2 hS hU hW.alike⟩⟩ rfl hn hl.2.1 rfl (lv_room hr) hdg hf) hS (fun _ _ h => h) (fun _ h => h) (fun r u t H1 locs1 ht hvm hp hB hz1 hk1 hS1 => ?_)
  refine kk r u hp ls H1 locs1 hl ?_ hS1
  rw [← ht]; exact hB.1
theorem v_callVv (C : Cx P Z cc own) {y : MethodName} {cc' : ByteArray} {maxL idx n k ci N : Nat} {rm' : Room} {as : List Value} {post : MG → Prop} {Cn : String} {T : u_T} {fs : List Value} (hM : MV P.2.1 y cc' maxL rm' Z (.ref (Z.ad k) :: as) g post) (hG : GoodIn wsG (wsV own idx Cn y (wz y cc' maxL none)))
    (hd : y.cls = Cn ∧ y.cls ≠ "java/lang/invoke/MethodHandle" ∧ y.cls ≠ "java/lang/invoke/VarHandle" ∧ (parseMethodDescriptor y.desc).map (fun d => d.parameters.length) = some n) (hR : rm'.frames + 1 ≤ R.frames ∧ 8 + (maxL + 11) + rm'.locals ≤ R.locals) (hc : vwCl[ci]? = some (Cn, T, N)) (hk : cx Z.Y Z.ad Z.df g k = some (.inr (ci, fs))) (hn : as.length = n) (hst : st = as.reverse ++ .ref (Z.ad k) :: rest) (hr : (rest.map fun v => v.category).sum ≤ 8) (hdg : decode cc pc = .ok (.invokevirtual idx, 3)) (hf : cs + rm'.cells ≤ R.cells ∧ sl + rm'.slots ≤ R.slots)
    (kk : ∀ (g' : MG), post g' → V P R Z lo (pc + 3) rest g' (cs + rm'.cells) (sl + rm'.slots)) : V P R Z lo pc st g cs sl := by
  obtain ⟨p, l, e, s, m, args, below, meth, c, Q, nL⟩ := P
  subst hst
  intro ls H locs hl hw hS
  have hP : va_P Z.D vwCl [(Z.ad k, .inr (ci, fs))] H := by
    intro i q hq
    rcases List.mem_singleton.mp (List.mem_of_getElem? hq) with rfl
    exact (hw.1 k _ hk).1
  refine va_callv (va_runV (As := as) (rest := rest) ⟨C.1, C.2.1, C.2.2.1, C.2.2.2.1, C.2.2.2.2.1⟩ hM (cwV n C.2.2.2.2.1 hG rfl rfl rfl hd hR) ⟨Wd_fb, va_recv C.2.2.2.2.2.1 hP hc (q0 := 0) rfl, fun U hU hW => ⟨rfl, Wd_of hw C.2.2.2.2.2.1 C.2.2.2.2.2.2.1 C.2.2.2.2.2.2.2.2 hS hU hW.alike⟩⟩ rfl hn hl.2.1 rfl (lv_room hr) hdg hf) hS (fun _ _ h => h) (fun _ h => h) (fun u t H1 locs1 ht hvm hp hB hz1 hk1 hS1 => ?_)
  refine kk u hp ls H1 locs1 hl ?_ hS1
  rw [← ht]; exact hB.1
theorem v_callSi (C : Cx P Z cc own) {y : MethodName} {cc' : ByteArray} {maxL idx n : Nat} {ret : Option FieldType} {rm' : Room} {as : List Value} {post : Int32 → MG → Prop} (hM : MI P.2.1 y cc' maxL ret rm' Z as g post) (hG : GoodIn wsG (wsS own idx y (wz y cc' maxL ret)))
    (hd : y.cls = own ∧ y.cls ≠ "java/lang/invoke/MethodHandle" ∧ y.cls ≠ "java/lang/invoke/VarHandle" ∧ (parseMethodDescriptor y.desc).map (fun d => d.parameters.length) = some n) (hR : rm'.frames + 1 ≤ R.frames ∧ 8 + (maxL + 11) + rm'.locals ≤ R.locals) (hn : as.length = n) (hst : st = as.reverse ++ rest) (hr : (rest.map fun v => v.category).sum ≤ 8) (hdg : decode cc pc = .ok (.invokestatic idx, 3)) (hf : cs + rm'.cells ≤ R.cells ∧ sl + rm'.slots ≤ R.slots)
    (kk : ∀ (r : Int32) (g' : MG), post r g' → V P R Z lo (pc + 3) (.int r :: rest) g' (cs + rm'.cells) (sl + rm'.slots)) : V P R Z lo pc st g cs sl := by
  obtain ⟨p, l, e, s, m, args, below, meth, c, Q, nL⟩ := P
  subst hst
  intro ls H locs hl hw hS
  refine va_calli (va_runS (As := as) (rest := rest) ⟨C.1, C.2.1, C.2.2.1, C.2.2.2.1, C.2.2.2.2.1⟩ hM (cwS n C.2.2.2.2.1 hG rfl rfl rfl hd hR) ⟨Wd_fb, fun U hU hW => ⟨rfl, Wd_of hw C.2.2.2.2.2.1 C.2.2.2.2.2.2.1 C.2.2.2.2.2.2.2.2 hS hU hW.alike⟩⟩ rfl hn hl.2.1 rfl (lv_room hr) hdg hf) hS (fun _ _ h => h) (fun _ h => h) (fun r u t H1 locs1 ht hvm hp hB hz1 hk1 hS1 => ?_)
  refine kk r u hp ls H1 locs1 hl ?_ hS1
  rw [← ht]; exact hB.1
end VCALL
section VT
variable {P : Pm} {R : Room} {Z : Zc} {lo : Lo} {pc : Nat} {rest st : List Value} {g : MG} {cs sl : Nat}
theorem v_topi {x y : Int32} (h : x = y) (k : V P R Z lo pc (.int y :: rest) g cs sl) : V P R Z lo pc (.int x :: rest) g cs sl := by rw [h]; exact k
theorem v_lo {lo' : Lo} (h : lo = lo') (k : V P R Z lo' pc st g cs sl) : V P R Z lo pc st g cs sl := by rw [h]; exact k
theorem v_g {g' : MG} (h : g = g') (k : V P R Z lo pc st g' cs sl) : V P R Z lo pc st g cs sl := by rw [h]; exact k
end VT
-- PLAIN FACTS
theorem i_lt (a b : Int32) : a < b ↔ a.toInt < b.toInt := Int32.lt_iff_toInt_lt
theorem i_le (a b : Int32) : a ≤ b ↔ a.toInt ≤ b.toInt := Int32.le_iff_toInt_le
theorem i_eq (a b : Int32) : a = b ↔ a.toInt = b.toInt := Int32.toInt_inj.symm
theorem nI_mul (a b : Nat) : nI a * nI b = nI (a * b) := (Int32.ofNat_mul a b).symm
theorem nI_lit (n : Nat) : (OfNat.ofNat n : Int32) = nI n := rfl
theorem nI_10 (f k : Nat) : 10 * nI f + nI k = nI (10 * f + k) := by rw [show (10 : Int32) = nI 10 from rfl, nI_mul, nI_add]
theorem ti_lit (n : Nat) (h : n < 2 ^ 31) : (OfNat.ofNat n : Int32).toInt = n := nI_toInt h
theorem nI_div {a b : Nat} (ha : a < 2 ^ 31) (hb : b < 2 ^ 31) : nI a / nI b = nI (a / b) := by
  apply Int32.toInt_inj.mp
  have h1 : (nI a).toInt = a := nI_toInt ha
  have h2 : (nI b).toInt = b := nI_toInt hb
  have h3 : a / b < 2 ^ 31 := Nat.lt_of_le_of_lt (Nat.div_le_self a b) ha
  have e : (a : Int).tdiv (b : Int) = ((a / b : Nat) : Int) := (Int.ofNat_tdiv a b).symm
  rw [nI_toInt h3, Int32.toInt_div, h1, h2, e]
  generalize a / b = q at h3
  rw [Int.bmod_eq_of_le] <;> omega
theorem nI_sub {a b : Nat} (h : b ≤ a) : nI a - nI b = nI (a - b) := by
  have : nI (a - b) + nI b = nI a := by rw [nI_add]; congr 1; omega
  rw [← this, Int32.add_sub_cancel]
theorem nI_mod10 {a : Nat} (ha : a < 2 ^ 31) : nI a - nI a / 10 * 10 = nI (a % 10) := by
  rw [show (10 : Int32) = nI 10 from rfl, nI_div ha (by decide), nI_mul, nI_sub (by omega)]
  congr 1; omega
theorem nI_inj {a b : Nat} (ha : a < 2 ^ 31) (hb : b < 2 ^ 31) (h : nI a = nI b) : a = b := (nI_eq ha hb).mp h
theorem vp_i {a n : Nat} (h : a < n) (hn : n < 2 ^ 31) : vp_in (nI a) n := vp_in_nI h hn
theorem ti_add {x y : Int32} (h1 : -2147483648 ≤ x.toInt + y.toInt) (h2 : x.toInt + y.toInt < 2147483648) : (x + y).toInt = x.toInt + y.toInt := by
  rw [Int32.toInt_add, Int.bmod_eq_of_le] <;> omega
theorem ti_sub {x y : Int32} (h1 : -2147483648 ≤ x.toInt - y.toInt) (h2 : x.toInt - y.toInt < 2147483648) : (x - y).toInt = x.toInt - y.toInt := by
  rw [Int32.toInt_sub, Int.bmod_eq_of_le] <;> omega
def bI (b : Bool) : Int32 := if b then 1 else 0
theorem bI_0 {b : Bool} : bI b = 0 ↔ b = false := by cases b <;> decide
theorem bI_1 {b : Bool} : ¬ bI b = 0 ↔ b = true := by cases b <;> decide
theorem bI_t {b : Bool} (h : b = true) : (1 : Int32) = bI b := by subst h; rfl
theorem bI_f {b : Bool} (h : b = false) : (0 : Int32) = bI b := by subst h; rfl
theorem cxA5 {Y : Yc} {ad : Nat → Nat} {df : Nat} {g : MG} : cx Y ad df g 5 = some (.inl (Y.1, 5, .inl (g 5))) := cx_Ma (k := 5) (by decide)
theorem cxA6 {Y : Yc} {ad : Nat → Nat} {df : Nat} {g : MG} : cx Y ad df g 6 = some (.inl (Y.1, 50, .inl (g 6))) := cx_Ma (k := 6) (by decide)
theorem cxA7 {Y : Yc} {ad : Nat → Nat} {df : Nat} {g : MG} : cx Y ad df g 7 = some (.inl (Y.1, 50, .inl (g 7))) := cx_Ma (k := 7) (by decide)
theorem cxA8 {Y : Yc} {ad : Nat → Nat} {df : Nat} {g : MG} : cx Y ad df g 8 = some (.inl (Y.1, 50, .inl (g 8))) := cx_Ma (k := 8) (by decide)
theorem cxA9 {Y : Yc} {ad : Nat → Nat} {df : Nat} {g : MG} : cx Y ad df g 9 = some (.inl (Y.1, 10, .inl (g 9))) := cx_Ma (k := 9) (by decide)
theorem cxA10 {Y : Yc} {ad : Nat → Nat} {df : Nat} {g : MG} : cx Y ad df g 10 = some (.inl (Y.1, 4, .inl (g 10))) := cx_Ma (k := 10) (by decide)
theorem cxA11 {Y : Yc} {ad : Nat → Nat} {df : Nat} {g : MG} : cx Y ad df g 11 = some (.inl (Y.1, 4, .inl (g 11))) := cx_Ma (k := 11) (by decide)
theorem cxA12 {Y : Yc} {ad : Nat → Nat} {df : Nat} {g : MG} : cx Y ad df g 12 = some (.inl (Y.1, 6, .inl (g 12))) := cx_Ma (k := 12) (by decide)
theorem cxA13 {Y : Yc} {ad : Nat → Nat} {df : Nat} {g : MG} : cx Y ad df g 13 = some (.inl (Y.1, 6, .inl (g 13))) := cx_Ma (k := 13) (by decide)
theorem cxA14 {Y : Yc} {ad : Nat → Nat} {df : Nat} {g : MG} : cx Y ad df g 14 = some (.inl (Y.1, 6, .inl (g 14))) := cx_Ma (k := 14) (by decide)
theorem cxA15 {Y : Yc} {ad : Nat → Nat} {df : Nat} {g : MG} : cx Y ad df g 15 = some (.inl (Y.1, 6, .inl (g 15))) := cx_Ma (k := 15) (by decide)
theorem cxA16 {Y : Yc} {ad : Nat → Nat} {df : Nat} {g : MG} : cx Y ad df g 16 = some (.inl (Y.1, 6, .inl (g 16))) := cx_Ma (k := 16) (by decide)
theorem cxA17 {Y : Yc} {ad : Nat → Nat} {df : Nat} {g : MG} : cx Y ad df g 17 = some (.inl (Y.1, 24, .inl (g 17))) := cx_Ma (k := 17) (by decide)
theorem cxA18 {Y : Yc} {ad : Nat → Nat} {df : Nat} {g : MG} : cx Y ad df g 18 = some (.inl (Y.1, 24, .inl (g 18))) := cx_Ma (k := 18) (by decide)
theorem cxA19 {Y : Yc} {ad : Nat → Nat} {df : Nat} {g : MG} : cx Y ad df g 19 = some (.inl (Y.1, 24, .inl (g 19))) := cx_Ma (k := 19) (by decide)
theorem cxA20 {Y : Yc} {ad : Nat → Nat} {df : Nat} {g : MG} : cx Y ad df g 20 = some (.inl (Y.1, 24, .inl (g 20))) := cx_Ma (k := 20) (by decide)
theorem cxA21 {Y : Yc} {ad : Nat → Nat} {df : Nat} {g : MG} : cx Y ad df g 21 = some (.inl (Y.1, 50, .inl (g 21))) := cx_Ma (k := 21) (by decide)
theorem cxA22 {Y : Yc} {ad : Nat → Nat} {df : Nat} {g : MG} : cx Y ad df g 22 = some (.inl (Y.1, 4, .inl (g 22))) := cx_Ma (k := 22) (by decide)
theorem cxA23 {Y : Yc} {ad : Nat → Nat} {df : Nat} {g : MG} : cx Y ad df g 23 = some (.inl (Y.1, 4, .inl (g 23))) := cx_Ma (k := 23) (by decide)
theorem cxA24 {Y : Yc} {ad : Nat → Nat} {df : Nat} {g : MG} : cx Y ad df g 24 = some (.inl (Y.1, 4, .inl (g 24))) := cx_Ma (k := 24) (by decide)
theorem cxA25 {Y : Yc} {ad : Nat → Nat} {df : Nat} {g : MG} : cx Y ad df g 25 = some (.inl (Y.1, 10, .inl (g 25))) := cx_Ma (k := 25) (by decide)
theorem nI_z {n : Nat} (hn : n < 2 ^ 31) (h : nI n ≤ 0) : n = 0 := by
  rw [i_le, nI_toInt hn] at h
  have : (0 : Int32).toInt = 0 := rfl
  omega
theorem nI_p {n : Nat} (hn : n < 2 ^ 31) (h : ¬ nI n ≤ 0) : 0 < n := by
  rw [i_le, nI_toInt hn] at h
  have : (0 : Int32).toInt = 0 := rfl
  omega
section VR2
variable {P : Pm} {R : Room} {Z : Zc} {cc : ByteArray} {own : String} {lo : Lo} {pc : Nat} {rest : List Value} {g : MG} {cs sl : Nat}
theorem v_dup2 (C : Cx P Z cc own) {v w : Value} (hdg : decode cc pc = .ok (.dup2, 1)) (hv : v.category = 1) (hw0 : w.category = 1) (kk : V P R Z lo (pc + 1) (v :: w :: v :: w :: rest) g cs sl) : V P R Z lo pc (v :: w :: rest) g cs sl := by
  obtain ⟨p, l, e, s, m, args, below, meth, c, Q, nL⟩ := P
  exact fun ls H locs hl hw hS => lv_dup2_11 C.1 C.2.1 hdg hv hw0 (kk ls H locs hl hw hS)
theorem v_mmin (C : Cx P Z cc own) {idx : Nat} (h1 : Cond.methodLink own idx Lib.Math.min.name ∈ wsG) (h2 : Cond.static Lib.Math.min.name ∈ wsG) (h3 : Cond.initialized "java/lang/Math" ∈ wsG) (h4 : Cond.code Lib.Math.min.name Lib.Math.min.code 2 (some .int) ∈ wsG) (hf : 1 ≤ R.frames) (hlo : (rest.map fun v => v.category).sum + 13 ≤ R.locals) (hc : cs ≤ R.cells) (hs : sl ≤ R.slots) {x y : Int32} (hdg : decode cc pc = .ok (.invokestatic idx, 3)) (kk : V P R Z lo (pc + 3) (.int (if y < x then y else x) :: rest) g cs sl) : V P R Z lo pc (.int y :: .int x :: rest) g cs sl := by
  obtain ⟨p, l, e, s, m, args, below, meth, c, Q, nL⟩ := P
  exact fun ls H locs hl hw hS => va_mmin C.1 C.2.1 (C.2.2.1.trans hl.2.1.symm) C.2.2.2.1 (C.2.2.2.2.1 _ h1) (C.2.2.2.2.1 _ h2) (C.2.2.2.2.1 _ h3) (C.2.2.2.2.1 _ h4) hf hlo hc hs hdg (kk ls H locs hl hw hS)
theorem v_mmax (C : Cx P Z cc own) {idx : Nat} (h1 : Cond.methodLink own idx Lib.Math.max.name ∈ wsG) (h2 : Cond.static Lib.Math.max.name ∈ wsG) (h3 : Cond.initialized "java/lang/Math" ∈ wsG) (h4 : Cond.code Lib.Math.max.name Lib.Math.max.code 2 (some .int) ∈ wsG) (hf : 1 ≤ R.frames) (hlo : (rest.map fun v => v.category).sum + 13 ≤ R.locals) (hc : cs ≤ R.cells) (hs : sl ≤ R.slots) {x y : Int32} (hdg : decode cc pc = .ok (.invokestatic idx, 3)) (kk : V P R Z lo (pc + 3) (.int (if x < y then y else x) :: rest) g cs sl) : V P R Z lo pc (.int y :: .int x :: rest) g cs sl := by
  obtain ⟨p, l, e, s, m, args, below, meth, c, Q, nL⟩ := P
  exact fun ls H locs hl hw hS => va_mmax C.1 C.2.1 (C.2.2.1.trans hl.2.1.symm) C.2.2.2.1 (C.2.2.2.2.1 _ h1) (C.2.2.2.2.1 _ h2) (C.2.2.2.2.1 _ h3) (C.2.2.2.2.1 _ h4) hf hlo hc hs hdg (kk ls H locs hl hw hS)
end VR2
section VR3
variable {P : Pm} {R : Room} {Z : Zc} {cc : ByteArray} {own : String} {lo : Lo} {pc : Nat} {rest : List Value} {g : MG} {cs sl : Nat}
theorem v_ialdN (C : Cx P Z cc own) {k n a : Nat} (hk : cx Z.Y Z.ad Z.df g k = some (.inl (Z.Y.1, n, .inl (g k)))) (ha : a < n ∧ n < 2147483648) (hdg : decode cc pc = .ok (.iaload, 1)) (kk : V P R Z lo (pc + 1) (.int (g k a) :: rest) g cs sl) : V P R Z lo pc (.int (nI a) :: .ref (Z.ad k) :: rest) g cs sl := by
  refine v_iald C hk (vp_in_nI ha.1 ha.2) hdg ?_
  rw [iz_nI (by have := ha.1; have := ha.2; omega)]
  exact kk
theorem v_iastN (C : Cx P Z cc own) {k n a : Nat} (hk : ∀ g' : MG, (∀ q, q ≠ k → g' q = g q) → cx Z.Y Z.ad Z.df g' k = some (.inl (Z.Y.1, n, .inl (g' k)))) (hlk : lk k = false) (hx : ∀ i, i < 24 → k ≠ 200 + 10 * i) {x : Int32} (ha : a < n ∧ n < 2147483648) (hdg : decode cc pc = .ok (.iastore, 1)) (kk : V P R Z lo (pc + 1) rest (wr g k a x) cs sl) : V P R Z lo pc (.int x :: .int (nI a) :: .ref (Z.ad k) :: rest) g cs sl := by
  refine v_iast C hk hlk hx (vp_in_nI ha.1 ha.2) hdg ?_
  rw [iz_nI (by have := ha.1; have := ha.2; omega)]
  exact kk
end VR3
theorem nI_m1 {o : Nat} (h : o < 2 ^ 31) : ¬ nI o = -1 := by
  rw [i_eq, nI_toInt h]
  have : (-1 : Int32).toInt = -1 := rfl
  omega
theorem up_row {g1 : MG} {k : Nat} {f : Nat → Int32} {n p : Nat} (x : Int32) (h : ∀ l, l < n → g1 k l = f l) : ∀ l, l < n → wr g1 k p x k l = upd f p x l := by
  intro l hl
  unfold upd
  by_cases hp : l = p
  · rw [if_pos hp, hp, wr_same]
  · rw [if_neg hp, wr_ne _ _ _ _ (Or.inr hp)]
    exact h l hl
end
section
/-! THE REFERENCE's small methods -/
def inB (v lo hi : Int32) : Bool := decide (lo ≤ v) && decide (v ≤ hi)
theorem inB_t {v lo hi : Int32} : inB v lo hi = true ↔ lo.toInt ≤ v.toInt ∧ v.toInt ≤ hi.toInt := by simp [inB, i_le]
theorem inB_f {v lo hi : Int32} : inB v lo hi = false ↔ ¬ (lo.toInt ≤ v.toInt ∧ v.toInt ≤ hi.toInt) := by rw [← inB_t]; cases inB v lo hi <;> simp
set_option maxRecDepth 100000 in
theorem c_isIn (l : Launch) (Z : Zc) (v a b : Int32) (g : MG) : MI l yX4_isIn cX4_isIn 3 (some .boolean) (rmz 0 0 0 0) Z [.int v, .int a, .int b] g (fun r g' => r = bI (inB v a b) ∧ g' = g) := by
  refine ent_z (own := RX4) (lo := [some (.int v), some (.int a), some (.int b)]) (by decide) rfl (by simp [lg_sl, Value.category]) rfl (fun P hl C ret => ?_)
  refine v_iload_n C dX4_isIn_0 rfl rfl ?_
  refine v_iload_n C dX4_isIn_1 rfl rfl ?_
  refine v_icmp_lt (tgt := 14) C dX4_isIn_2 (by decide) (fun h2 => ?_) (fun h2 => ?_)
  · refine v_iconst (v := 0) C dX4_isIn_14 (by decide) ?_
    exact ret _ _ _ _ dX4_isIn_15 (by decide) ⟨bI_f (inB_f.mpr (by simp only [i_lt, i_le, i_eq] at h2 ⊢; omega)), rfl⟩
  · refine v_iload_n C dX4_isIn_5 rfl rfl ?_
    refine v_iload_n C dX4_isIn_6 rfl rfl ?_
    refine v_icmp_gt (tgt := 14) C dX4_isIn_7 (by decide) (fun h7 => ?_) (fun h7 => ?_)
    · refine v_iconst (v := 0) C dX4_isIn_14 (by decide) ?_
      exact ret _ _ _ _ dX4_isIn_15 (by decide) ⟨bI_f (inB_f.mpr (by simp only [i_lt, i_le, i_eq] at h2 h7 ⊢; omega)), rfl⟩
    · refine v_iconst (v := 1) C dX4_isIn_10 (by decide) ?_
      refine v_goto (tgt := 15) C dX4_isIn_11 (by decide) ?_
      exact ret _ _ _ _ dX4_isIn_15 (by decide) ⟨bI_t (inB_t.mpr (by simp only [i_lt, i_le, i_eq] at h2 h7 ⊢; omega)), rfl⟩
set_option maxRecDepth 100000 in
theorem c_no (l : Launch) (Z : Zc) (k : Int32) (g : MG) : MI l yX4_no cX4_no 2 (some .int) (rmz 0 0 0 0) Z [.ref (Z.ad 0), .int k] g (fun r g' => r = 0 ∧ g' = wr g 0 0 k) := by
  refine ent_i (own := RX4) (lo := [some (.ref (Z.ad 0)), some (.int k)]) (by decide) rfl (by simp [lg_sl, Value.category]) rfl (fun P hl C ret => ?_)
  refine v_aload_n C dX4_no_0 rfl rfl ?_
  refine v_iload_n C dX4_no_1 rfl rfl ?_
  refine v_put C inG4 rfl tyX4 tyX4_ok nmX4 0 (by decide) (tg3 195 rfl rfl) rfl rfl (ty := .int) rfl rfl rfl cx_M (Nat.le_of_ble_eq_true rfl) rfl (by omega) cx_M dX4_no_2 ?_
  refine v_iconst (v := 0) C dX4_no_5 (by decide) ?_
  exact ret _ _ _ _ dX4_no_6 ⟨rfl, rfl⟩
set_option maxRecDepth 100000 in
theorem c_thrown (l : Launch) (Z : Zc) (g : MG) : MI l yX4_thrown cX4_thrown 1 (some .int) (rmz 0 0 0 0) Z [.ref (Z.ad 0)] g (fun r g' => r = g 0 0 ∧ g' = g) := by
  refine ent_i (own := RX4) (lo := [some (.ref (Z.ad 0))]) (by decide) rfl (by simp [lg_sl, Value.category]) rfl (fun P hl C ret => ?_)
  refine v_aload_n C dX4_thrown_0 rfl rfl ?_
  refine v_get C inG4 rfl 0 (by decide) (tg3 195 rfl rfl) rfl cx_M rfl dX4_thrown_1 ?_
  exact ret _ _ _ _ dX4_thrown_4 ⟨rfl, rfl⟩
def okM (g : MG) (f k : Nat) (x : Int32) : Bool := decide (0 < g 6 (10 * f + k) - g 7 (10 * f + k) - g 21 (10 * f + k) - x)
set_option maxRecDepth 100000 in
theorem c_isLeft (l : Launch) (Z : Zc) (f k : Nat) (g : MG) (hf : f < 5) (hk : k < 10) : MI l yX4_isLeft cX4_isLeft 4 (some .boolean) (rmz 0 0 0 0) Z [.ref (Z.ad 0), .int (nI f), .int (nI k)] g (fun r g' => r = bI (okM g f k (g 25 k)) ∧ g' = g) := by
  refine ent_z (own := RX4) (lo := [some (.ref (Z.ad 0)), some (.int (nI f)), some (.int (nI k)), none]) (by decide) rfl (by simp [lg_sl, Value.category]) rfl (fun P hl C ret => ?_)
  refine v_bipush (v := 10) C dX4_isLeft_0 (by decide) ?_
  refine v_iload_n C dX4_isLeft_2 rfl rfl ?_
  refine v_imul C dX4_isLeft_3 ?_
  refine v_iload_n C dX4_isLeft_4 rfl rfl ?_
  refine v_iadd C dX4_isLeft_5 ?_
  refine v_topi (y := nI (10 * f + k)) (nI_10 f k) ?_
  refine v_istore_n (lo' := [some (.ref (Z.ad 0)), some (.int (nI f)), some (.int (nI k)), some (.int (nI (10 * f + k)))]) C dX4_isLeft_6 rfl (Nat.le_of_ble_eq_true rfl) rfl rfl ?_
  refine v_aload_n C dX4_isLeft_7 rfl rfl ?_
  refine v_get C inG4 rfl 6 (by decide) (tg3 201 rfl rfl) rfl cx_M rfl dX4_isLeft_8 ?_
  refine v_iload_n C dX4_isLeft_11 rfl rfl ?_
  refine v_ialdN (a := (10 * f + k)) C cxA6 (by omega) dX4_isLeft_12 ?_
  refine v_aload_n C dX4_isLeft_13 rfl rfl ?_
  refine v_get C inG4 rfl 7 (by decide) (tg3 202 rfl rfl) rfl cx_M rfl dX4_isLeft_14 ?_
  refine v_iload_n C dX4_isLeft_17 rfl rfl ?_
  refine v_ialdN (a := (10 * f + k)) C cxA7 (by omega) dX4_isLeft_18 ?_
  refine v_isub C dX4_isLeft_19 ?_
  refine v_aload_n C dX4_isLeft_20 rfl rfl ?_
  refine v_get C inG4 rfl 21 (by decide) (tg3 216 rfl rfl) rfl cx_M rfl dX4_isLeft_21 ?_
  refine v_iload_n C dX4_isLeft_24 rfl rfl ?_
  refine v_ialdN (a := (10 * f + k)) C cxA21 (by omega) dX4_isLeft_25 ?_
  refine v_isub C dX4_isLeft_26 ?_
  refine v_aload_n C dX4_isLeft_27 rfl rfl ?_
  refine v_get C inG4 rfl 25 (by decide) (tg3 220 rfl rfl) rfl cx_M rfl dX4_isLeft_28 ?_
  refine v_iload_n C dX4_isLeft_31 rfl rfl ?_
  refine v_ialdN (a := k) C cxA25 (by omega) dX4_isLeft_32 ?_
  refine v_isub C dX4_isLeft_33 ?_
  refine v_if_le (tgt := 41) C dX4_isLeft_34 (by decide) (fun h34 => ?_) (fun h34 => ?_)
  · refine v_iconst (v := 0) C dX4_isLeft_41 (by decide) ?_
    exact ret _ _ _ _ dX4_isLeft_42 (by decide) ⟨bI_f (by simpa [okM, iz_nI (show 10 * f + k < 2 ^ 31 by omega), iz_nI (show k < 2 ^ 31 by omega)] using h34), rfl⟩
  · refine v_iconst (v := 1) C dX4_isLeft_37 (by decide) ?_
    refine v_goto (tgt := 42) C dX4_isLeft_38 (by decide) ?_
    exact ret _ _ _ _ dX4_isLeft_42 (by decide) ⟨bI_t (by simpa [okM, iz_nI (show 10 * f + k < 2 ^ 31 by omega), iz_nI (show k < 2 ^ 31 by omega)] using h34), rfl⟩
def dgc : Nat → Nat → Nat
  | 0, _ => 0
  | f + 1, r => if r = 0 then 0 else dgc f (r / 10) + 1
def szw (w : Nat) : Nat := 1 + dgc 9 (w / 10)
set_option maxRecDepth 100000 in
theorem c_size (l : Launch) (Z : Zc) (w : Nat) (g : MG) (hw : w < 2 ^ 31) : MI l yX4_size cX4_size 3 (some .int) (rmz 0 0 0 0) Z [.int (nI w)] g (fun r g' => r = nI (szw w) ∧ g' = g) := by
  refine ent_i (own := RX4) (lo := [some (.int (nI w)), none, none]) (by decide) rfl (by simp [lg_sl, Value.category]) rfl (fun P hl C ret => ?_)
  have loop : ∀ (f r m : Nat), r < 10 ^ f → r < 2 ^ 31 → m + dgc f r = szw w → V P (rmz 0 0 0 0) Z [some (.int (nI w)), some (.int (nI m)), some (.int (nI r))] 7 [] g 0 0 := by
    intro f
    induction f with
    | zero =>
      intro r m hr hr2 he
      have hr0 : r = 0 := by omega
      subst hr0
      refine v_iload_n C dX4_size_7 rfl rfl ?_
      refine v_if_le (tgt := 22) C dX4_size_8 (by decide) (fun h8 => ?_) (fun h8 => ?_)
      · refine v_iload_n C dX4_size_22 rfl rfl ?_
        exact ret _ _ _ _ dX4_size_23 ⟨by rw [← he]; rfl, rfl⟩
      · exact absurd (show nI 0 ≤ 0 by decide) h8
    | succ f ih =>
      intro r m hr hr2 he
      refine v_iload_n C dX4_size_7 rfl rfl ?_
      refine v_if_le (tgt := 22) C dX4_size_8 (by decide) (fun h8 => ?_) (fun h8 => ?_)
      · refine v_iload_n C dX4_size_22 rfl rfl ?_
        exact ret _ _ _ _ dX4_size_23 ⟨by rw [← he, nI_z hr2 h8]; rfl, rfl⟩
      · refine v_iinc (lo' := [some (.int (nI w)), some (.int ((nI m) + 1)), some (.int (nI r))]) C dX4_size_11 rfl rfl rfl rfl ?_
        refine v_lo (lo' := [some (.int (nI w)), some (.int (nI (m + 1))), some (.int (nI r))]) (by rw [← nI_1 m]) ?_
        refine v_iload_n C dX4_size_14 rfl rfl ?_
        refine v_bipush (v := 10) C dX4_size_15 (by decide) ?_
        refine v_idiv C dX4_size_17 (by decide) ?_
        refine v_topi (y := nI (r / 10)) (nI_div (b := 10) hr2 (by decide)) ?_
        refine v_istore_n (lo' := [some (.int (nI w)), some (.int (nI (m + 1))), some (.int (nI (r / 10)))]) C dX4_size_18 rfl (Nat.le_of_ble_eq_true rfl) rfl rfl ?_
        refine v_goto (tgt := 7) C dX4_size_19 (by decide) ?_
        exact ih (r / 10) (m + 1) (by rw [Nat.pow_succ] at hr; omega) (by omega) (by rw [← he]; simp only [dgc, Nat.ne_of_gt (nI_p hr2 h8), if_false]; omega)
  refine v_iconst (v := 1) C dX4_size_0 (by decide) ?_
  refine v_istore_n (lo' := [some (.int (nI w)), some (.int 1), none]) C dX4_size_1 rfl (Nat.le_of_ble_eq_true rfl) rfl rfl ?_
  refine v_iload_n C dX4_size_2 rfl rfl ?_
  refine v_bipush (v := 10) C dX4_size_3 (by decide) ?_
  refine v_idiv C dX4_size_5 (by decide) ?_
  refine v_topi (y := nI (w / 10)) (nI_div (b := 10) hw (by decide)) ?_
  refine v_istore_n (lo' := [some (.int (nI w)), some (.int 1), some (.int (nI (w / 10)))]) C dX4_size_6 rfl (Nat.le_of_ble_eq_true rfl) rfl rfl ?_
  exact loop 9 (w / 10) 1 (by omega) (by omega) rfl
end
section
/-! THE REFERENCE: letters, and a line that is tried of a fount -/
set_option maxRecDepth 100000 in
theorem c_letterAt (l : Launch) (Z : Zc) (w b : Nat) (g : MG) (hw : w < 2 ^ 31) (hb : b < 2 ^ 31) : MI l yX4_letterAt cX4_letterAt 4 (some .int) (rmz 0 0 0 0) Z [.int (nI w), .int (nI b)] g (fun r g' => r = nI (w / 10 ^ b % 10) ∧ g' = g) := by
  refine ent_i (own := RX4) (lo := [some (.int (nI w)), some (.int (nI b)), none, none]) (by decide) rfl (by simp [lg_sl, Value.category]) rfl (fun P hl C ret => ?_)
  have loop : ∀ (n : Nat) (k : Nat), k ≤ b → b - k < n → V P (rmz 0 0 0 0) Z [some (.int (nI w)), some (.int (nI b)), some (.int (nI (w / 10 ^ k))), some (.int (nI k))] 4 [] g 0 0 := by
    intro n
    induction n with
    | zero => intro k hk hn; exact absurd hn (Nat.not_lt_zero _)
    | succ n ih =>
      intro k hk hn
      refine v_iload_n C dX4_letterAt_4 rfl rfl ?_
      refine v_iload_n C dX4_letterAt_5 rfl rfl ?_
      refine v_icmp_ge (tgt := 20) C dX4_letterAt_6 (by decide) (fun h6 => ?_) (fun h6 => ?_)
      · have hkb : k = b := Nat.le_antisymm hk ((nI_leI hb (by omega)).mp h6)
        refine v_iload_n C dX4_letterAt_20 rfl rfl ?_
        refine v_bipush (v := 10) C dX4_letterAt_21 (by decide) ?_
        refine v_irem C dX4_letterAt_23 (by decide) ?_
        refine v_topi (y := nI (w / 10 ^ b % 10)) (by rw [nI_mod10 (Nat.lt_of_le_of_lt (Nat.div_le_self _ _) hw), hkb]) ?_
        exact ret _ _ _ _ dX4_letterAt_24 ⟨rfl, rfl⟩
      · have hkb : ¬ b ≤ k := fun q => h6 ((nI_leI hb (by omega)).mpr q)
        refine v_iload_n C dX4_letterAt_9 rfl rfl ?_
        refine v_bipush (v := 10) C dX4_letterAt_10 (by decide) ?_
        refine v_idiv C dX4_letterAt_12 (by decide) ?_
        refine v_topi (y := nI (w / 10 ^ (k + 1))) (by rw [show (10 : Int32) = nI 10 from rfl, nI_div (Nat.lt_of_le_of_lt (Nat.div_le_self _ _) hw) (by decide), Nat.pow_succ, Nat.div_div_eq_div_mul]) ?_
        refine v_istore_n (lo' := [some (.int (nI w)), some (.int (nI b)), some (.int (nI (w / 10 ^ (k + 1)))), some (.int (nI k))]) C dX4_letterAt_13 rfl (Nat.le_of_ble_eq_true rfl) rfl rfl ?_
        refine v_iinc (lo' := [some (.int (nI w)), some (.int (nI b)), some (.int (nI (w / 10 ^ (k + 1)))), some (.int ((nI k) + 1))]) C dX4_letterAt_14 rfl rfl rfl rfl ?_
        refine v_lo (lo' := [some (.int (nI w)), some (.int (nI b)), some (.int (nI (w / 10 ^ (k + 1)))), some (.int (nI (k + 1)))]) (by rw [← nI_1 k]) ?_
        refine v_goto (tgt := 4) C dX4_letterAt_17 (by decide) ?_
        exact ih (k + 1) (by omega) (by omega)
  refine v_iload_n C dX4_letterAt_0 rfl rfl ?_
  refine v_topi (y := nI (w / 10 ^ 0)) (by rw [Nat.pow_zero, Nat.div_one]) ?_
  refine v_istore_n (lo' := [some (.int (nI w)), some (.int (nI b)), some (.int (nI (w / 10 ^ 0))), none]) C dX4_letterAt_1 rfl (Nat.le_of_ble_eq_true rfl) rfl rfl ?_
  refine v_iconst (v := 0) C dX4_letterAt_2 (by decide) ?_
  refine v_topi (y := nI 0) rfl ?_
  refine v_istore_n (lo' := [some (.int (nI w)), some (.int (nI b)), some (.int (nI (w / 10 ^ 0))), some (.int (nI 0))]) C dX4_letterAt_3 rfl (Nat.le_of_ble_eq_true rfl) rfl rfl ?_
  exact loop (b + 1) 0 (Nat.zero_le _) (by omega)
abbrev TS : Type := (Nat → Int32) × Int32 × Int32
/-- one letter more: the blocks taken, the flaws, the word so far -/
def tl1 (ok : Nat → Int32 → Bool) (ot : Nat → Int32) (s : TS) (d : Nat) : Option TS :=
  if ok d (s.1 d) then some (upd s.1 d (s.1 d + 1), s.2.1, 10 * s.2.2 + nI d)
  else if ot d = -1 then none
  else if ok (iz (ot d)) (s.1 (iz (ot d))) then some (upd s.1 (iz (ot d)) (s.1 (iz (ot d)) + 1), s.2.1 + 1, 10 * s.2.2 + ot d) else none
def tlR (ok : Nat → Int32 → Bool) (ot : Nat → Int32) (w : Nat) : Nat → TS → Option TS
  | 0, s => some s
  | m + 1, s => (tl1 ok ot s (w / 10 ^ m % 10)).bind (tlR ok ot w m)
def ts0 : TS := (fun _ => 0, 0, 0)
def otI (ot : Nat → Int32) : Prop := ∀ l, l < 10 → ot l = -1 ∨ ∃ o, o < 10 ∧ o ≠ l ∧ ot l = nI o
/-- only its row and wordNow are written -/
def frT (g g' : MG) : Prop := (∀ q, q ≠ 25 → q ≠ 0 → g' q = g q) ∧ ∀ j, j ≠ 26 → g' 0 j = g 0 j
theorem frT.rf {g : MG} : frT g g := ⟨fun _ _ _ => rfl, fun _ _ => rfl⟩
theorem frT.w25 {g g' : MG} (h : frT g g') (j : Nat) (x : Int32) : frT g (wr g' 25 j x) := ⟨fun q h1 h2 => by rw [wr_row _ _ _ _ h1]; exact h.1 q h1 h2, fun j' hj => by rw [wr_row _ _ _ _ (by decide)]; exact h.2 j' hj⟩
theorem frT.w0 {g g' : MG} (h : frT g g') (x : Int32) : frT g (wr g' 0 26 x) := ⟨fun q h1 h2 => by rw [wr_row _ _ _ _ h2]; exact h.1 q h1 h2, fun j' hj => by rw [wr_ne _ _ _ _ (Or.inr hj)]; exact h.2 j' hj⟩
theorem okM_fr {g g' : MG} (h : frT g g') (f k : Nat) (x : Int32) : okM g' f k x = okM g f k x := by unfold okM; rw [h.1 6 (by decide) (by decide), h.1 7 (by decide) (by decide), h.1 21 (by decide) (by decide)]
/-- what a try answers and leaves -/
def tlQ (o : Option TS) (r : Int32) (g' : MG) : Prop := match o with
  | none => r = -1
  | some s => r = s.2.1 ∧ g' 0 26 = s.2.2 ∧ ∀ l, l < 10 → g' 25 l = s.1 l
theorem szw_le {w : Nat} : szw w ≤ 10 := by
  unfold szw
  have h : ∀ f r, dgc f r ≤ f := by
    intro f
    induction f with
    | zero => intro r; exact Nat.le_refl 0
    | succ f ih =>
      intro r
      unfold dgc
      split
      · omega
      · have := ih (r / 10); omega
  have := h 9 (w / 10)
  omega
set_option maxRecDepth 100000 in
theorem c_tryLine (l : Launch) (Z : Zc) (f w : Nat) (g : MG) (hf : f < 5) (hw : w < 2 ^ 31) (hot : otI (g 9)) : MI l yX4_tryLine cX4_tryLine 6 (some .int) (rmz 1 23 0 0) Z [.ref (Z.ad 0), .int (nI f), .int (nI w)] g (fun r g' => frT g g' ∧ tlQ (tlR (okM g f) (g 9) w (szw w) ts0) r g') := by
  refine ent_i (own := RX4) (lo := [some (.ref (Z.ad 0)), some (.int (nI f)), some (.int (nI w)), none, none, none]) (by decide) rfl (by simp [lg_sl, Value.category]) rfl (fun P hl C ret => ?_)
  have loop2 : ∀ (n : Nat) (m : Nat) (s : TS) (g1 : MG) (v : Option Value), m < n → m ≤ 10 → frT g g1 → (∀ l, l < 10 → g1 25 l = s.1 l) → g1 0 26 = s.2.2 → tlR (okM g f) (g 9) w m s = tlR (okM g f) (g 9) w (szw w) ts0 → V P (rmz 1 23 0 0) Z [some (.ref (Z.ad 0)), some (.int (nI f)), some (.int (nI w)), some (.int s.2.1), some (.int (nI m - 1)), v] 39 [] g1 0 0 := by
    intro n
    induction n with
    | zero => intro m s g1 v hn hm hfr hi hwd he; exact absurd hn (Nat.not_lt_zero _)
    | succ n ih =>
      intro m s g1 v hn hm hfr hi hwd he
      refine v_iload C dX4_tryLine_39 rfl ?_
      refine v_if_lt (tgt := 123) C dX4_tryLine_41 (by decide) (fun h41 => ?_) (fun h41 => ?_)
      · cases m with
        | succ m => exact absurd h41 (by rw [nI_pred]; exact nI_pos (by omega))
        | zero =>
          refine v_iload_n C dX4_tryLine_123 rfl rfl ?_
          exact ret _ _ _ _ dX4_tryLine_124 ⟨hfr, by rw [← he]; exact ⟨rfl, hwd, hi⟩⟩
      · cases m with
        | zero => exact absurd (show nI 0 - 1 < 0 by decide) h41
        | succ m =>
          have hd : w / 10 ^ m % 10 < 10 := Nat.mod_lt _ (by decide)
          refine v_lo (lo' := [some (.ref (Z.ad 0)), some (.int (nI f)), some (.int (nI w)), some (.int s.2.1), some (.int (nI m)), v]) (by rw [nI_pred]) ?_
          obtain ⟨d, hde⟩ : ∃ d, d = w / 10 ^ m % 10 := ⟨_, rfl⟩
          have e9 : g1 9 = g 9 := hfr.1 9 (by decide) (by decide)
          rw [← hde] at hd
          have he2 : (tl1 (okM g f) (g 9) s d).bind (tlR (okM g f) (g 9) w m) = tlR (okM g f) (g 9) w (szw w) ts0 := by rw [hde]; exact he
          refine v_iload_n C dX4_tryLine_44 rfl rfl ?_
          refine v_iload C dX4_tryLine_45 rfl ?_
          refine v_callSi (n := 2) (as := [.int (nI w), .int (nI m)]) C (c_letterAt _ Z w m g1 hw (by omega)) (gs (tg4 111 rfl rfl) (tg4 112 rfl rfl) (tg1 6 rfl rfl) (tg4 113 rfl rfl)) (by decide +kernel) ⟨Nat.le_of_ble_eq_true rfl, Nat.le_of_ble_eq_true rfl⟩ rfl rfl (Nat.le_of_ble_eq_true rfl) dX4_tryLine_47 ⟨Nat.le_of_ble_eq_true rfl, Nat.le_of_ble_eq_true rfl⟩ (fun r47 g47 hp47 => ?_)
          obtain ⟨rfl, hg47⟩ := hp47
          rw [hg47]
          refine v_topi (y := nI d) (by rw [hde]) ?_
          refine v_istore (lo' := [some (.ref (Z.ad 0)), some (.int (nI f)), some (.int (nI w)), some (.int s.2.1), some (.int (nI m)), some (.int (nI d))]) C dX4_tryLine_50 (Nat.le_of_ble_eq_true rfl) rfl rfl ?_
          refine v_aload_n C dX4_tryLine_52 rfl rfl ?_
          refine v_iload_n C dX4_tryLine_53 rfl rfl ?_
          refine v_iload C dX4_tryLine_54 rfl ?_
          refine v_callVi (n := 2) (as := [.int (nI f), .int (nI d)]) C (c_isLeft _ Z f d g1 hf hd) (gv (tg4 114 rfl rfl) (tg4 116 rfl rfl) (tg0 26 rfl rfl) (tg1 6 rfl rfl) (tg4 117 rfl rfl)) (by decide +kernel) ⟨Nat.le_of_ble_eq_true rfl, Nat.le_of_ble_eq_true rfl⟩ rfl cx_M rfl rfl (Nat.le_of_ble_eq_true rfl) dX4_tryLine_56 ⟨Nat.le_of_ble_eq_true rfl, Nat.le_of_ble_eq_true rfl⟩ (fun r56 g56 hp56 => ?_)
          obtain ⟨rfl, hg56⟩ := hp56
          rw [hg56]
          refine v_topi (y := bI (okM g f d (s.1 d))) (by rw [okM_fr hfr, hi d hd]) ?_
          refine v_if_ne (tgt := 92) C dX4_tryLine_59 (by decide) (fun h59 => ?_) (fun h59 => ?_)
          · have hk := bI_1.mp h59
            refine v_aload_n C dX4_tryLine_92 rfl rfl ?_
            refine v_get C inG4 rfl 25 (by decide) (tg3 220 rfl rfl) rfl cx_M rfl dX4_tryLine_93 ?_
            refine v_iload C dX4_tryLine_96 rfl ?_
            refine v_dup2 C dX4_tryLine_98 rfl rfl ?_
            refine v_ialdN (a := d) C cxA25 ⟨hd, by decide⟩ dX4_tryLine_99 ?_
            refine v_iconst (v := 1) C dX4_tryLine_100 (by decide) ?_
            refine v_iadd C dX4_tryLine_101 ?_
            refine v_iastN (a := d) C (fun _ _ => cxA25) rfl (by omega) ⟨hd, by decide⟩ dX4_tryLine_102 ?_
            refine v_aload_n C dX4_tryLine_103 rfl rfl ?_
            refine v_bipush (v := 10) C dX4_tryLine_104 (by decide) ?_
            refine v_aload_n C dX4_tryLine_106 rfl rfl ?_
            refine v_get C inG4 rfl 26 (by decide) (tg3 221 rfl rfl) rfl cx_M rfl dX4_tryLine_107 ?_
            refine v_imul C dX4_tryLine_110 ?_
            refine v_iload C dX4_tryLine_111 rfl ?_
            refine v_iadd C dX4_tryLine_113 ?_
            refine v_put C inG4 rfl tyX4 tyX4_ok nmX4 26 (by decide) (tg3 221 rfl rfl) rfl rfl (ty := .int) rfl rfl rfl cx_M (Nat.le_of_ble_eq_true rfl) rfl (by omega) cx_M dX4_tryLine_114 ?_
            refine v_iinc (lo' := [some (.ref (Z.ad 0)), some (.int (nI f)), some (.int (nI w)), some (.int s.2.1), some (.int ((nI m) + (-1))), some (.int (nI d))]) C dX4_tryLine_117 rfl rfl rfl rfl ?_
            refine v_lo (lo' := [some (.ref (Z.ad 0)), some (.int (nI f)), some (.int (nI w)), some (.int s.2.1), some (.int (nI m - 1)), some (.int (nI d))]) (by rw [Int32.sub_eq_add_neg]) ?_
            refine v_goto (tgt := 39) C dX4_tryLine_120 (by decide) ?_
            have hs : tl1 (okM g f) (g 9) s d = some (upd s.1 d (s.1 d + 1), s.2.1, 10 * s.2.2 + nI d) := by simp [tl1, hk]
            rw [hs] at he2
            exact ih m (upd s.1 d (s.1 d + 1), s.2.1, 10 * s.2.2 + nI d) _ _ (by omega) (by omega) ((hfr.w25 _ _).w0 _) (fun l hl => by rw [wr_row _ _ _ _ (by decide), hi d hd]; exact up_row _ hi l hl) (by rw [wr_same, wr_row _ _ _ _ (by decide), hwd]) he2
          · have hk := bI_0.mp h59
            refine v_aload_n C dX4_tryLine_62 rfl rfl ?_
            refine v_get C inG4 rfl 9 (by decide) (tg3 204 rfl rfl) rfl cx_M rfl dX4_tryLine_63 ?_
            refine v_iload C dX4_tryLine_66 rfl ?_
            refine v_ialdN (a := d) C cxA9 ⟨hd, by decide⟩ dX4_tryLine_68 ?_
            refine v_topi (y := g 9 d) (by rw [e9]) ?_
            refine v_istore (lo' := [some (.ref (Z.ad 0)), some (.int (nI f)), some (.int (nI w)), some (.int s.2.1), some (.int (nI m)), some (.int (g 9 d))]) C dX4_tryLine_69 (Nat.le_of_ble_eq_true rfl) rfl rfl ?_
            refine v_iinc (lo' := [some (.ref (Z.ad 0)), some (.int (nI f)), some (.int (nI w)), some (.int (s.2.1 + 1)), some (.int (nI m)), some (.int (g 9 d))]) C dX4_tryLine_71 rfl rfl rfl rfl ?_
            refine v_iload C dX4_tryLine_74 rfl ?_
            refine v_iconst (v := (-1)) C dX4_tryLine_76 (by decide) ?_
            refine v_icmp_eq (tgt := 90) C dX4_tryLine_77 (by decide) (fun h77 => ?_) (fun h77 => ?_)
            · have hno : tl1 (okM g f) (g 9) s d = none := by simp [tl1, hk, h77]
              rw [hno] at he2
              refine v_iconst (v := (-1)) C dX4_tryLine_90 (by decide) ?_
              exact ret _ _ _ _ dX4_tryLine_91 ⟨hfr, by rw [← he2]; exact rfl⟩
            · obtain ⟨o, ho, -, hoe⟩ := (hot d hd).resolve_left h77
              refine v_lo (lo' := [some (.ref (Z.ad 0)), some (.int (nI f)), some (.int (nI w)), some (.int (s.2.1 + 1)), some (.int (nI m)), some (.int (nI o))]) (by rw [hoe]) ?_
              refine v_aload_n C dX4_tryLine_80 rfl rfl ?_
              refine v_iload_n C dX4_tryLine_81 rfl rfl ?_
              refine v_iload C dX4_tryLine_82 rfl ?_
              refine v_callVi (n := 2) (as := [.int (nI f), .int (nI o)]) C (c_isLeft _ Z f o g1 hf ho) (gv (tg4 114 rfl rfl) (tg4 116 rfl rfl) (tg0 26 rfl rfl) (tg1 6 rfl rfl) (tg4 117 rfl rfl)) (by decide +kernel) ⟨Nat.le_of_ble_eq_true rfl, Nat.le_of_ble_eq_true rfl⟩ rfl cx_M rfl rfl (Nat.le_of_ble_eq_true rfl) dX4_tryLine_84 ⟨Nat.le_of_ble_eq_true rfl, Nat.le_of_ble_eq_true rfl⟩ (fun r84 g84 hp84 => ?_)
              obtain ⟨rfl, hg84⟩ := hp84
              rw [hg84]
              refine v_topi (y := bI (okM g f o (s.1 o))) (by rw [okM_fr hfr, hi o ho]) ?_
              refine v_if_ne (tgt := 92) C dX4_tryLine_87 (by decide) (fun h87 => ?_) (fun h87 => ?_)
              · have hk2 := bI_1.mp h87
                refine v_aload_n C dX4_tryLine_92 rfl rfl ?_
                refine v_get C inG4 rfl 25 (by decide) (tg3 220 rfl rfl) rfl cx_M rfl dX4_tryLine_93 ?_
                refine v_iload C dX4_tryLine_96 rfl ?_
                refine v_dup2 C dX4_tryLine_98 rfl rfl ?_
                refine v_ialdN (a := o) C cxA25 ⟨ho, by decide⟩ dX4_tryLine_99 ?_
                refine v_iconst (v := 1) C dX4_tryLine_100 (by decide) ?_
                refine v_iadd C dX4_tryLine_101 ?_
                refine v_iastN (a := o) C (fun _ _ => cxA25) rfl (by omega) ⟨ho, by decide⟩ dX4_tryLine_102 ?_
                refine v_aload_n C dX4_tryLine_103 rfl rfl ?_
                refine v_bipush (v := 10) C dX4_tryLine_104 (by decide) ?_
                refine v_aload_n C dX4_tryLine_106 rfl rfl ?_
                refine v_get C inG4 rfl 26 (by decide) (tg3 221 rfl rfl) rfl cx_M rfl dX4_tryLine_107 ?_
                refine v_imul C dX4_tryLine_110 ?_
                refine v_iload C dX4_tryLine_111 rfl ?_
                refine v_iadd C dX4_tryLine_113 ?_
                refine v_put C inG4 rfl tyX4 tyX4_ok nmX4 26 (by decide) (tg3 221 rfl rfl) rfl rfl (ty := .int) rfl rfl rfl cx_M (Nat.le_of_ble_eq_true rfl) rfl (by omega) cx_M dX4_tryLine_114 ?_
                refine v_iinc (lo' := [some (.ref (Z.ad 0)), some (.int (nI f)), some (.int (nI w)), some (.int (s.2.1 + 1)), some (.int ((nI m) + (-1))), some (.int (nI o))]) C dX4_tryLine_117 rfl rfl rfl rfl ?_
                refine v_lo (lo' := [some (.ref (Z.ad 0)), some (.int (nI f)), some (.int (nI w)), some (.int (s.2.1 + 1)), some (.int (nI m - 1)), some (.int (nI o))]) (by rw [Int32.sub_eq_add_neg]) ?_
                refine v_goto (tgt := 39) C dX4_tryLine_120 (by decide) ?_
                have hs : tl1 (okM g f) (g 9) s d = some (upd s.1 o (s.1 o + 1), s.2.1 + 1, 10 * s.2.2 + nI o) := by simp [tl1, hk, h77, hoe, iz_nI (show o < 2 ^ 31 by omega), hk2, nI_m1 (show o < 2 ^ 31 by omega)]
                rw [hs] at he2
                exact ih m (upd s.1 o (s.1 o + 1), s.2.1 + 1, 10 * s.2.2 + nI o) _ _ (by omega) (by omega) ((hfr.w25 _ _).w0 _) (fun l hl => by rw [wr_row _ _ _ _ (by decide), hi o ho]; exact up_row _ hi l hl) (by rw [wr_same, wr_row _ _ _ _ (by decide), hwd]) he2
              · have hk2 := bI_0.mp h87
                have hno : tl1 (okM g f) (g 9) s d = none := by simp [tl1, hk, h77, hoe, iz_nI (show o < 2 ^ 31 by omega), hk2, nI_m1 (show o < 2 ^ 31 by omega)]
                rw [hno] at he2
                refine v_iconst (v := (-1)) C dX4_tryLine_90 (by decide) ?_
                exact ret _ _ _ _ dX4_tryLine_91 ⟨hfr, by rw [← he2]; exact rfl⟩
  have loop1 : ∀ (n : Nat) (k : Nat) (g1 : MG), 10 - k < n → k ≤ 10 → frT g g1 → (∀ l, l < k → g1 25 l = 0) → g1 0 26 = 0 → V P (rmz 1 23 0 0) Z [some (.ref (Z.ad 0)), some (.int (nI f)), some (.int (nI w)), some (.int 0), some (.int (nI k)), none] 10 [] g1 0 0 := by
    intro n
    induction n with
    | zero => intro k g1 hn hk hfr hi hwd; exact absurd hn (Nat.not_lt_zero _)
    | succ n ih =>
      intro k g1 hn hk hfr hi hwd
      refine v_iload C dX4_tryLine_10 rfl ?_
      refine v_bipush (v := 10) C dX4_tryLine_12 (by decide) ?_
      refine v_icmp_ge (tgt := 31) C dX4_tryLine_14 (by decide) (fun h14 => ?_) (fun h14 => ?_)
      · have hk10 : 10 ≤ k := (nI_leI (a := 10) (by decide) (by omega)).mp h14
        refine v_iload_n C dX4_tryLine_31 rfl rfl ?_
        refine v_callSi (n := 1) (as := [.int (nI w)]) C (c_size _ Z w g1 hw) (gs (tg4 108 rfl rfl) (tg4 109 rfl rfl) (tg1 6 rfl rfl) (tg4 110 rfl rfl)) (by decide +kernel) ⟨Nat.le_of_ble_eq_true rfl, Nat.le_of_ble_eq_true rfl⟩ rfl rfl (Nat.le_of_ble_eq_true rfl) dX4_tryLine_32 ⟨Nat.le_of_ble_eq_true rfl, Nat.le_of_ble_eq_true rfl⟩ (fun r32 g32 hp32 => ?_)
        obtain ⟨rfl, hg32⟩ := hp32
        rw [hg32]
        refine v_iconst (v := 1) C dX4_tryLine_35 (by decide) ?_
        refine v_isub C dX4_tryLine_36 ?_
        refine v_istore (lo' := [some (.ref (Z.ad 0)), some (.int (nI f)), some (.int (nI w)), some (.int 0), some (.int ((nI (szw w)) - 1)), none]) C dX4_tryLine_37 (Nat.le_of_ble_eq_true rfl) rfl rfl ?_
        exact loop2 (szw w + 1) (szw w) ts0 g1 none (by omega) szw_le hfr (fun l hl => hi l (by omega)) hwd rfl
      · have hk10 : ¬ 10 ≤ k := fun q => h14 ((nI_leI (a := 10) (by decide) (by omega)).mpr q)
        refine v_aload_n C dX4_tryLine_17 rfl rfl ?_
        refine v_get C inG4 rfl 25 (by decide) (tg3 220 rfl rfl) rfl cx_M rfl dX4_tryLine_18 ?_
        refine v_iload C dX4_tryLine_21 rfl ?_
        refine v_iconst (v := 0) C dX4_tryLine_23 (by decide) ?_
        refine v_iastN (a := k) C (fun _ _ => cxA25) rfl (by omega) ⟨by omega, by decide⟩ dX4_tryLine_24 ?_
        refine v_iinc (lo' := [some (.ref (Z.ad 0)), some (.int (nI f)), some (.int (nI w)), some (.int 0), some (.int ((nI k) + 1)), none]) C dX4_tryLine_25 rfl rfl rfl rfl ?_
        refine v_lo (lo' := [some (.ref (Z.ad 0)), some (.int (nI f)), some (.int (nI w)), some (.int 0), some (.int (nI (k + 1))), none]) (by rw [← nI_1 k]) ?_
        refine v_goto (tgt := 10) C dX4_tryLine_28 (by decide) ?_
        exact ih (k + 1) _ (by omega) (by omega) (hfr.w25 _ _) (fun l hl => by by_cases hlk : l = k; (· rw [hlk, wr_same]); (· rw [wr_ne _ _ _ _ (Or.inr hlk)]; exact hi l (by omega))) (by rw [wr_row _ _ _ _ (by decide)]; exact hwd)
  refine v_iconst (v := 0) C dX4_tryLine_0 (by decide) ?_
  refine v_istore_n (lo' := [some (.ref (Z.ad 0)), some (.int (nI f)), some (.int (nI w)), some (.int 0), none, none]) C dX4_tryLine_1 rfl (Nat.le_of_ble_eq_true rfl) rfl rfl ?_
  refine v_aload_n C dX4_tryLine_2 rfl rfl ?_
  refine v_iconst (v := 0) C dX4_tryLine_3 (by decide) ?_
  refine v_put C inG4 rfl tyX4 tyX4_ok nmX4 26 (by decide) (tg3 221 rfl rfl) rfl rfl (ty := .int) rfl rfl rfl cx_M (Nat.le_of_ble_eq_true rfl) rfl (by omega) cx_M dX4_tryLine_4 ?_
  refine v_iconst (v := 0) C dX4_tryLine_7 (by decide) ?_
  refine v_topi (y := nI 0) rfl ?_
  refine v_istore (lo' := [some (.ref (Z.ad 0)), some (.int (nI f)), some (.int (nI w)), some (.int 0), some (.int (nI 0)), none]) C dX4_tryLine_8 (Nat.le_of_ble_eq_true rfl) rfl rfl ?_
  exact loop1 11 0 _ (by omega) (by omega) (frT.rf.w0 _) (fun l hl => absurd hl (Nat.not_lt_zero l)) (wr_same _ _ _ _)
end
section
/-! THE REFERENCE: the best fount of a line, and a poster that is tried -/
def btr (ht : Nat → Int32) (fl : Int32) (f : Nat) (least best : Int32) : Bool := if fl = -1 ∨ best = -1 then decide (¬ fl = -1) else decide (fl < least) || (decide (fl = least) && decide (ht (iz best) < ht f))
def trv (o : Option TS) : Int32 := match o with
  | none => -1
  | some s => s.2.1
theorem tlQ_trv {o : Option TS} {r : Int32} {g' : MG} (h : tlQ o r g') : r = trv o := by
  cases o with
  | none => exact h
  | some s => exact h.1
/-- the best fount, from f on, n more of them: (least flaws, best) -/
def bo (fv ht : Nat → Int32) (tall : Int32) : Nat → Nat → Int32 × Int32 → Int32 × Int32
  | 0, _, s => s
  | n + 1, f, s => bo fv ht tall n (f + 1) (if ht f < tall then s else if btr ht (fv f) f s.1 s.2 then (fv f, nI f) else s)
def fvM (g : MG) (w f : Nat) : Int32 := trv (tlR (okM g f) (g 9) w (szw w) ts0)
theorem frT.trans {a b c : MG} (h1 : frT a b) (h2 : frT b c) : frT a c := ⟨fun q x y => (h2.1 q x y).trans (h1.1 q x y), fun j x => (h2.2 j x).trans (h1.2 j x)⟩
theorem fvM_fr {g g' : MG} (h : frT g g') (w f : Nat) : fvM g' w f = fvM g w f := by
  unfold fvM
  rw [h.1 9 (by decide) (by decide), show okM g' f = okM g f from funext fun k => funext fun x => okM_fr h f k x]
set_option maxRecDepth 100000 in
theorem c_isBetter (l : Launch) (Z : Zc) (fl least best : Int32) (f : Nat) (g : MG) (hf : f < 5) (hb : best = -1 ∨ ∃ b, b < 5 ∧ best = nI b) : MI l yX4_isBetter cX4_isBetter 5 (some .boolean) (rmz 0 0 0 0) Z [.ref (Z.ad 0), .int fl, .int (nI f), .int least, .int best] g (fun r g' => r = bI (btr (g 5) fl f least best) ∧ g' = g) := by
  refine ent_z (own := RX4) (lo := [some (.ref (Z.ad 0)), some (.int fl), some (.int (nI f)), some (.int least), some (.int best)]) (by decide) rfl (by simp [lg_sl, Value.category]) rfl (fun P hl C ret => ?_)
  refine v_iload_n C dX4_isBetter_0 rfl rfl ?_
  refine v_iconst (v := (-1)) C dX4_isBetter_1 (by decide) ?_
  refine v_icmp_eq (tgt := 11) C dX4_isBetter_2 (by decide) (fun h2 => ?_) (fun h2 => ?_)
  · refine v_iload_n C dX4_isBetter_11 rfl rfl ?_
    refine v_iconst (v := (-1)) C dX4_isBetter_12 (by decide) ?_
    refine v_icmp_eq (tgt := 20) C dX4_isBetter_13 (by decide) (fun h13 => ?_) (fun h13 => ?_)
    · refine v_iconst (v := 0) C dX4_isBetter_20 (by decide) ?_
      exact ret _ _ _ _ dX4_isBetter_21 (by decide) ⟨bI_f (by simp [btr, h2, h13]), rfl⟩
    · refine v_iconst (v := 1) C dX4_isBetter_16 (by decide) ?_
      refine v_goto (tgt := 21) C dX4_isBetter_17 (by decide) ?_
      exact ret _ _ _ _ dX4_isBetter_21 (by decide) ⟨bI_t (absurd h2 h13), rfl⟩
  · refine v_iload C dX4_isBetter_5 rfl ?_
    refine v_iconst (v := (-1)) C dX4_isBetter_7 (by decide) ?_
    refine v_icmp_ne (tgt := 22) C dX4_isBetter_8 (by decide) (fun h8 => ?_) (fun h8 => ?_)
    · obtain ⟨b, hb5, hbe⟩ := hb.resolve_left h8
      subst hbe
      refine v_iload_n C dX4_isBetter_22 rfl rfl ?_
      refine v_iload_n C dX4_isBetter_23 rfl rfl ?_
      refine v_icmp_lt (tgt := 48) C dX4_isBetter_24 (by decide) (fun h24 => ?_) (fun h24 => ?_)
      · refine v_iconst (v := 1) C dX4_isBetter_48 (by decide) ?_
        refine v_goto (tgt := 53) C dX4_isBetter_49 (by decide) ?_
        exact ret _ _ _ _ dX4_isBetter_53 (by decide) ⟨bI_t (by simp [btr, h2, h8, h24]), rfl⟩
      · refine v_iload_n C dX4_isBetter_27 rfl rfl ?_
        refine v_iload_n C dX4_isBetter_28 rfl rfl ?_
        refine v_icmp_ne (tgt := 52) C dX4_isBetter_29 (by decide) (fun h29 => ?_) (fun h29 => ?_)
        · refine v_iconst (v := 0) C dX4_isBetter_52 (by decide) ?_
          exact ret _ _ _ _ dX4_isBetter_53 (by decide) ⟨bI_f (by simp [btr, h2, h8, h24, h29]), rfl⟩
        · refine v_aload_n C dX4_isBetter_32 rfl rfl ?_
          refine v_get C inG4 rfl 5 (by decide) (tg3 200 rfl rfl) rfl cx_M rfl dX4_isBetter_33 ?_
          refine v_iload_n C dX4_isBetter_36 rfl rfl ?_
          refine v_ialdN (a := f) C cxA5 ⟨hf, by decide⟩ dX4_isBetter_37 ?_
          refine v_aload_n C dX4_isBetter_38 rfl rfl ?_
          refine v_get C inG4 rfl 5 (by decide) (tg3 200 rfl rfl) rfl cx_M rfl dX4_isBetter_39 ?_
          refine v_iload C dX4_isBetter_42 rfl ?_
          refine v_ialdN (a := b) C cxA5 ⟨hb5, by decide⟩ dX4_isBetter_44 ?_
          refine v_icmp_le (tgt := 52) C dX4_isBetter_45 (by decide) (fun h45 => ?_) (fun h45 => ?_)
          · refine v_iconst (v := 0) C dX4_isBetter_52 (by decide) ?_
            exact ret _ _ _ _ dX4_isBetter_53 (by decide) ⟨bI_f (by subst h29; simp [btr, h2, h8, h24, h45, iz_nI (show b < 2 ^ 31 by omega)]), rfl⟩
          · refine v_iconst (v := 1) C dX4_isBetter_48 (by decide) ?_
            refine v_goto (tgt := 53) C dX4_isBetter_49 (by decide) ?_
            exact ret _ _ _ _ dX4_isBetter_53 (by decide) ⟨bI_t (by subst h29; simp [btr, h2, h8, h24, Int32.not_le.mp h45, iz_nI (show b < 2 ^ 31 by omega)]), rfl⟩
    · refine v_iload_n C dX4_isBetter_11 rfl rfl ?_
      refine v_iconst (v := (-1)) C dX4_isBetter_12 (by decide) ?_
      refine v_icmp_eq (tgt := 20) C dX4_isBetter_13 (by decide) (fun h13 => ?_) (fun h13 => ?_)
      · refine v_iconst (v := 0) C dX4_isBetter_20 (by decide) ?_
        exact ret _ _ _ _ dX4_isBetter_21 (by decide) ⟨bI_f (by simp [btr, h2, h8, h13]), rfl⟩
      · refine v_iconst (v := 1) C dX4_isBetter_16 (by decide) ?_
        refine v_goto (tgt := 21) C dX4_isBetter_17 (by decide) ?_
        exact ret _ _ _ _ dX4_isBetter_21 (by decide) ⟨bI_t (by simp [btr, h2, h8, h13]), rfl⟩
set_option maxRecDepth 100000 in
theorem c_bestOf (l : Launch) (Z : Zc) (p w nf : Nat) (g : MG) (hp : p < 6) (hw : w < 2 ^ 31) (hot : otI (g 9)) (hnf : g 0 1 = nI nf) (h5 : nf ≤ 5) : MI l yX4_bestOf cX4_bestOf 7 (some .int) (rmz 2 48 0 0) Z [.ref (Z.ad 0), .int (nI p), .int (nI w)] g (fun r g' => frT g g' ∧ r = (bo (fvM g w) (g 5) (g 13 p) nf 0 (0, -1)).2 ∧ (r = -1 ∨ ∃ b, b < nf ∧ r = nI b)) := by
  refine ent_i (own := RX4) (lo := [some (.ref (Z.ad 0)), some (.int (nI p)), some (.int (nI w)), none, none, none, none]) (by decide) rfl (by simp [lg_sl, Value.category]) rfl (fun P hl C ret => ?_)
  have loop : ∀ (n : Nat) (f : Nat) (s : Int32 × Int32) (g1 : MG) (v : Option Value), nf - f < n → f ≤ nf → frT g g1 → (s.2 = -1 ∨ ∃ b, b < nf ∧ s.2 = nI b) → bo (fvM g w) (g 5) (g 13 p) (nf - f) f s = (bo (fvM g w) (g 5) (g 13 p) nf 0 (0, -1)) → V P (rmz 2 48 0 0) Z [some (.ref (Z.ad 0)), some (.int (nI p)), some (.int (nI w)), some (.int s.2), some (.int s.1), some (.int (nI f)), v] 8 [] g1 0 0 := by
    intro n
    induction n with
    | zero => intro f s g1 v hn hf hfr hb he; exact absurd hn (Nat.not_lt_zero _)
    | succ n ih =>
      intro f s g1 v hn hf hfr hb he
      refine v_iload C dX4_bestOf_8 rfl ?_
      refine v_aload_n C dX4_bestOf_10 rfl rfl ?_
      have e01 : g1 0 1 = nI nf := (hfr.2 1 (by decide)).trans hnf
      refine v_get C inG4 rfl 1 (by decide) (tg3 196 rfl rfl) rfl cx_M rfl dX4_bestOf_11 ?_
      refine v_topi (y := nI nf) e01 ?_
      refine v_icmp_ge (tgt := 75) C dX4_bestOf_14 (by decide) (fun h14 => ?_) (fun h14 => ?_)
      · have hfn : f = nf := Nat.le_antisymm hf ((nI_leI (by omega) (by omega)).mp h14)
        refine v_iload_n C dX4_bestOf_75 rfl rfl ?_
        exact ret _ _ _ _ dX4_bestOf_76 ⟨hfr, by rw [← he, hfn, Nat.sub_self]; rfl, hb⟩
      · have hfn : f < nf := Nat.lt_of_not_le fun q => h14 ((nI_leI (by omega) (by omega)).mpr q)
        have hst : bo (fvM g w) (g 5) (g 13 p) (nf - (f + 1)) (f + 1) (if g 5 f < g 13 p then s else if btr (g 5) (fvM g w f) f s.1 s.2 then (fvM g w f, nI f) else s) = (bo (fvM g w) (g 5) (g 13 p) nf 0 (0, -1)) := by rw [← he, show nf - f = nf - (f + 1) + 1 by omega]; rfl
        refine v_aload_n C dX4_bestOf_17 rfl rfl ?_
        refine v_get C inG4 rfl 5 (by decide) (tg3 200 rfl rfl) rfl cx_M rfl dX4_bestOf_18 ?_
        refine v_iload C dX4_bestOf_21 rfl ?_
        refine v_ialdN (a := f) C cxA5 ⟨by omega, by decide⟩ dX4_bestOf_23 ?_
        refine v_aload_n C dX4_bestOf_24 rfl rfl ?_
        refine v_get C inG4 rfl 13 (by decide) (tg3 208 rfl rfl) rfl cx_M rfl dX4_bestOf_25 ?_
        refine v_iload_n C dX4_bestOf_28 rfl rfl ?_
        refine v_ialdN (a := p) C cxA13 ⟨hp, by decide⟩ dX4_bestOf_29 ?_
        rw [hfr.1 5 (by decide) (by decide), hfr.1 13 (by decide) (by decide)]
        refine v_icmp_ge (tgt := 36) C dX4_bestOf_30 (by decide) (fun h30 => ?_) (fun h30 => ?_)
        · refine v_aload_n C dX4_bestOf_36 rfl rfl ?_
          refine v_iload C dX4_bestOf_37 rfl ?_
          refine v_iload_n C dX4_bestOf_39 rfl rfl ?_
          refine v_callVi (n := 2) (as := [.int (nI f), .int (nI w)]) C (c_tryLine _ Z f w g1 (by omega) hw (by rw [hfr.1 9 (by decide) (by decide)]; exact hot)) (gv (tg4 104 rfl rfl) (tg4 106 rfl rfl) (tg0 25 rfl rfl) (tg1 6 rfl rfl) (tg4 107 rfl rfl)) (by decide +kernel) ⟨Nat.le_of_ble_eq_true rfl, Nat.le_of_ble_eq_true rfl⟩ rfl cx_M rfl rfl (Nat.le_of_ble_eq_true rfl) dX4_bestOf_40 ⟨Nat.le_of_ble_eq_true rfl, Nat.le_of_ble_eq_true rfl⟩ (fun r40 g40 hp40 => ?_)
          obtain ⟨hfr2, hq⟩ := hp40
          have hfr3 := hfr.trans hfr2
          have hv : r40 = fvM g w f := (tlQ_trv hq).trans (fvM_fr hfr w f)
          subst hv
          refine v_topi (y := fvM g w f) rfl ?_
          refine v_istore (lo' := [some (.ref (Z.ad 0)), some (.int (nI p)), some (.int (nI w)), some (.int s.2), some (.int s.1), some (.int (nI f)), some (.int (fvM g w f))]) C dX4_bestOf_43 (Nat.le_of_ble_eq_true rfl) rfl rfl ?_
          refine v_aload_n C dX4_bestOf_45 rfl rfl ?_
          refine v_iload C dX4_bestOf_46 rfl ?_
          refine v_iload C dX4_bestOf_48 rfl ?_
          refine v_iload C dX4_bestOf_50 rfl ?_
          refine v_iload_n C dX4_bestOf_52 rfl rfl ?_
          refine v_callVi (n := 4) (as := [.int (fvM g w f), .int (nI f), .int s.1, .int s.2]) C (c_isBetter _ Z (fvM g w f) s.1 s.2 f g40 (by omega) (hb.elim Or.inl fun ⟨b, h1, h2⟩ => Or.inr ⟨b, by omega, h2⟩)) (gv (tg4 118 rfl rfl) (tg4 120 rfl rfl) (tg0 27 rfl rfl) (tg1 6 rfl rfl) (tg4 121 rfl rfl)) (by decide +kernel) ⟨Nat.le_of_ble_eq_true rfl, Nat.le_of_ble_eq_true rfl⟩ rfl cx_M rfl rfl (Nat.le_of_ble_eq_true rfl) dX4_bestOf_53 ⟨Nat.le_of_ble_eq_true rfl, Nat.le_of_ble_eq_true rfl⟩ (fun r53 g53 hp53 => ?_)
          obtain ⟨rfl, hg53⟩ := hp53
          rw [hg53]
          refine v_topi (y := bI (btr (g 5) (fvM g w f) f s.1 s.2)) (by rw [hfr3.1 5 (by decide) (by decide)]) ?_
          refine v_if_ne (tgt := 62) C dX4_bestOf_56 (by decide) (fun h56 => ?_) (fun h56 => ?_)
          · refine v_iload C dX4_bestOf_62 rfl ?_
            refine v_istore_n (lo' := [some (.ref (Z.ad 0)), some (.int (nI p)), some (.int (nI w)), some (.int (nI f)), some (.int s.1), some (.int (nI f)), some (.int (fvM g w f))]) C dX4_bestOf_64 rfl (Nat.le_of_ble_eq_true rfl) rfl rfl ?_
            refine v_iload C dX4_bestOf_65 rfl ?_
            refine v_istore (lo' := [some (.ref (Z.ad 0)), some (.int (nI p)), some (.int (nI w)), some (.int (nI f)), some (.int (fvM g w f)), some (.int (nI f)), some (.int (fvM g w f))]) C dX4_bestOf_67 (Nat.le_of_ble_eq_true rfl) rfl rfl ?_
            refine v_iinc (lo' := [some (.ref (Z.ad 0)), some (.int (nI p)), some (.int (nI w)), some (.int (nI f)), some (.int (fvM g w f)), some (.int ((nI f) + 1)), some (.int (fvM g w f))]) C dX4_bestOf_69 rfl rfl rfl rfl ?_
            refine v_lo (lo' := [some (.ref (Z.ad 0)), some (.int (nI p)), some (.int (nI w)), some (.int (nI f)), some (.int (fvM g w f)), some (.int (nI (f + 1))), some (.int (fvM g w f))]) (by rw [← nI_1 f]) ?_
            refine v_goto (tgt := 8) C dX4_bestOf_72 (by decide) ?_
            rw [if_neg (Int32.not_lt.mpr h30), if_pos (bI_1.mp h56)] at hst
            exact ih (f + 1) (fvM g w f, nI f) g40 _ (by omega) (by omega) hfr3 (Or.inr ⟨f, hfn, rfl⟩) hst
          · refine v_goto (tgt := 69) C dX4_bestOf_59 (by decide) ?_
            refine v_iinc (lo' := [some (.ref (Z.ad 0)), some (.int (nI p)), some (.int (nI w)), some (.int s.2), some (.int s.1), some (.int ((nI f) + 1)), some (.int (fvM g w f))]) C dX4_bestOf_69 rfl rfl rfl rfl ?_
            refine v_lo (lo' := [some (.ref (Z.ad 0)), some (.int (nI p)), some (.int (nI w)), some (.int s.2), some (.int s.1), some (.int (nI (f + 1))), some (.int (fvM g w f))]) (by rw [← nI_1 f]) ?_
            refine v_goto (tgt := 8) C dX4_bestOf_72 (by decide) ?_
            rw [if_neg (Int32.not_lt.mpr h30), if_neg (by rw [bI_0.mp h56]; exact Bool.false_ne_true)] at hst
            exact ih (f + 1) s g40 _ (by omega) (by omega) hfr3 hb hst
        · refine v_goto (tgt := 69) C dX4_bestOf_33 (by decide) ?_
          refine v_iinc (lo' := [some (.ref (Z.ad 0)), some (.int (nI p)), some (.int (nI w)), some (.int s.2), some (.int s.1), some (.int ((nI f) + 1)), v]) C dX4_bestOf_69 rfl rfl rfl rfl ?_
          refine v_lo (lo' := [some (.ref (Z.ad 0)), some (.int (nI p)), some (.int (nI w)), some (.int s.2), some (.int s.1), some (.int (nI (f + 1))), v]) (by rw [← nI_1 f]) ?_
          refine v_goto (tgt := 8) C dX4_bestOf_72 (by decide) ?_
          rw [if_pos (Int32.not_le.mp h30)] at hst
          exact ih (f + 1) s g1 v (by omega) (by omega) hfr hb hst
  refine v_iconst (v := (-1)) C dX4_bestOf_0 (by decide) ?_
  refine v_istore_n (lo' := [some (.ref (Z.ad 0)), some (.int (nI p)), some (.int (nI w)), some (.int (-1)), none, none, none]) C dX4_bestOf_1 rfl (Nat.le_of_ble_eq_true rfl) rfl rfl ?_
  refine v_iconst (v := 0) C dX4_bestOf_2 (by decide) ?_
  refine v_istore (lo' := [some (.ref (Z.ad 0)), some (.int (nI p)), some (.int (nI w)), some (.int (-1)), some (.int 0), none, none]) C dX4_bestOf_3 (Nat.le_of_ble_eq_true rfl) rfl rfl ?_
  refine v_iconst (v := 0) C dX4_bestOf_5 (by decide) ?_
  refine v_topi (y := nI 0) rfl ?_
  refine v_istore (lo' := [some (.ref (Z.ad 0)), some (.int (nI p)), some (.int (nI w)), some (.int (-1)), some (.int 0), some (.int (nI 0)), none]) C dX4_bestOf_6 (Nat.le_of_ble_eq_true rfl) rfl rfl ?_
  exact loop (nf + 1) 0 (0, -1) g none (by omega) (Nat.zero_le _) frT.rf (Or.inl rfl) rfl
end
section
/-! THE REFERENCE: a poster that is tried -/
abbrev OK : Type := (Nat → Int32) → Nat → Nat → Int32 → Bool
def okA (bl ou : Nat → Int32) : OK := fun mo f k x => decide (0 < bl (10 * f + k) - ou (10 * f + k) - mo (10 * f + k) - x)
theorem okM_A (g : MG) (f : Nat) : okM g f = okA (g 6) (g 7) (g 21) f := rfl
def fvF (okf : OK) (ot : Nat → Int32) (mo : Nat → Int32) (w f : Nat) : Int32 := trv (tlR (okf mo f) ot w (szw w) ts0)
theorem fvM_F (g : MG) (w : Nat) : fvM g w = fvF (okA (g 6) (g 7)) (g 9) (g 21) w := rfl
def boF (okf : OK) (ot ht : Nat → Int32) (tall : Int32) (nf : Nat) (mo : Nat → Int32) (w : Nat) : Int32 := (bo (fvF okf ot mo w) ht tall nf 0 (0, -1)).2
def pl1 (okf : OK) (ot ht : Nat → Int32) (tall : Int32) (nf : Nat) (mo : Nat → Int32) (w : Nat) : Option (Nat × TS) :=
  if boF okf ot ht tall nf mo w = -1 then none else (tlR (okf mo (iz (boF okf ot ht tall nf mo w))) ot w (szw w) ts0).map (fun s => (iz (boF okf ot ht tall nf mo w), s))
def spd (mo : Nat → Int32) (q : Nat × TS) : Nat → Int32 := fun j => if 10 * q.1 ≤ j ∧ j < 10 * q.1 + 10 then mo j + q.2.1 (j - 10 * q.1) else mo j
def plA (okf : OK) (ot ht : Nat → Int32) (tall : Int32) (nf : Nat) : List Nat → List (Nat × TS) → (Nat → Int32) → Option (List (Nat × TS) × (Nat → Int32))
  | [], acc, mo => some (acc, mo)
  | w :: ws, acc, mo => (pl1 okf ot ht tall nf mo w).bind fun q => plA okf ot ht tall nf ws (acc ++ [q]) (spd mo q)
def flS (L : List (Nat × TS)) : Int32 := L.foldl (fun a q => a + q.2.2.1) 0
theorem flS_app (L : List (Nat × TS)) (q : Nat × TS) : flS (L ++ [q]) = flS L + q.2.2.1 := by simp [flS]
/-- the words of a poster, from its k-th line on -/
def wds (wd : Nat → Nat) (p k n : Nat) : List Nat := (List.range' k (n - k)).map (fun q => wd (4 * p + q))
theorem wds_nil (wd : Nat → Nat) (p : Nat) {k n : Nat} (h : n ≤ k) : wds wd p k n = [] := by simp [wds, Nat.sub_eq_zero_of_le h]
theorem wds_cons (wd : Nat → Nat) (p : Nat) {k n : Nat} (h : k < n) : wds wd p k n = wd (4 * p + k) :: wds wd p (k + 1) n := by
  unfold wds
  rw [show n - k = (n - (k + 1)) + 1 by omega, List.range'_succ]
  rfl
theorem btr_ne {ht : Nat → Int32} {fl : Int32} {f : Nat} {least best : Int32} (h : btr ht fl f least best = true) : ¬ fl = -1 := by
  unfold btr at h
  split at h
  · simpa using h
  · next hh => exact fun q => hh (Or.inl q)
theorem bo_ok {fv ht : Nat → Int32} {tall : Int32} : ∀ (n f : Nat) (s : Int32 × Int32), f + n ≤ 5 → (s.2 = -1 ∨ ∃ b, b < 5 ∧ s.2 = nI b ∧ s.1 = fv b ∧ ¬ fv b = -1) → ((bo fv ht tall n f s).2 = -1 ∨ ∃ b, b < 5 ∧ (bo fv ht tall n f s).2 = nI b ∧ (bo fv ht tall n f s).1 = fv b ∧ ¬ fv b = -1) := by
  intro n
  induction n with
  | zero => intro f s _ h; exact h
  | succ n ih =>
    intro f s hf h
    unfold bo
    refine ih (f + 1) _ (by omega) ?_
    split
    · exact h
    · split
      · next hb => exact Or.inr ⟨f, by omega, rfl, rfl, btr_ne hb⟩
      · exact h
/-- what a tried poster answers and leaves -/
def plQ (o : Option (List (Nat × TS) × (Nat → Int32))) (r : Int32) (g' : MG) : Prop := match o with
  | none => r = -1
  | some (L, mo) => r = flS L ∧ g' 21 = mo ∧ ∀ i q, L[i]? = some q → g' 22 i = nI q.1 ∧ g' 23 i = q.2.2.1 ∧ g' 24 i = q.2.2.2
/-- only the rows of a try are written -/
def frP (g g' : MG) : Prop := (∀ q, (q < 21 ∨ 25 < q) → q ≠ 0 → g' q = g q) ∧ ∀ j, j ≠ 26 → g' 0 j = g 0 j
theorem frP.rf {g : MG} : frP g g := ⟨fun _ _ _ => rfl, fun _ _ => rfl⟩
theorem frP.trans {a b c : MG} (h1 : frP a b) (h2 : frP b c) : frP a c := ⟨fun q x y => (h2.1 q x y).trans (h1.1 q x y), fun j x => (h2.2 j x).trans (h1.2 j x)⟩
theorem frT.P {a b : MG} (h : frT a b) : frP a b := ⟨fun q x y => h.1 q (by omega) y, h.2⟩
theorem frP.w {g g' : MG} (h : frP g g') {k : Nat} (j : Nat) (x : Int32) (hk : 21 ≤ k ∧ k ≤ 25) : frP g (wr g' k j x) := ⟨fun q h1 h2 => by rw [wr_row _ _ _ _ (by omega)]; exact h.1 q h1 h2, fun j' hj => by rw [wr_row _ _ _ _ (by omega)]; exact h.2 j' hj⟩
def moZ (g : MG) : Nat → Int32 := fun j => if j < 50 then 0 else g 21 j
def plM (g : MG) (p nl nf : Nat) (wd : Nat → Nat) : Option (List (Nat × TS) × (Nat → Int32)) :=
  if g 15 p = 1 ∨ nl = 0 then none else plA (okA (g 6) (g 7)) (g 9) (g 5) (g 13 p) nf (wds wd p 0 nl) [] (moZ g)
set_option maxRecDepth 100000 in
theorem c_tryPoster (l : Launch) (Z : Zc) (p nl nf : Nat) (wd : Nat → Nat) (g : MG) (hp : p < 6) (hot : otI (g 9)) (hnf : g 0 1 = nI nf) (h5 : nf ≤ 5) (hnl : g 14 p = nI nl) (h4 : nl ≤ 4) (hW : ∀ j, j < 24 → g 17 j = nI (wd j) ∧ wd j < 2 ^ 31) : MI l yX4_tryPoster cX4_tryPoster 7 (some .int) (rmz 3 74 0 0) Z [.ref (Z.ad 0), .int (nI p)] g (fun r g' => frP g g' ∧ plQ (plM g p nl nf wd) r g') := by
  refine ent_i (own := RX4) (lo := [some (.ref (Z.ad 0)), some (.int (nI p)), none, none, none, none, none]) (by decide) rfl (by simp [lg_sl, Value.category]) rfl (fun P hl C ret => ?_)
  have loopC : ∀ (n : Nat) (k b : Nat) (s : TS) (gB g1 : MG) (v v2 v3 : Option Value), 10 - k < n → k ≤ 10 → b < 5 → (∀ q, q ≠ 21 → g1 q = gB q) → (∀ l, l < 10 → gB 25 l = s.1 l) → (∀ j, g1 21 j = if 10 * b ≤ j ∧ j < 10 * b + k then gB 21 j + s.1 (j - 10 * b) else gB 21 j) → (∀ g2 : MG, (∀ q, q ≠ 21 → g2 q = gB q) → g2 21 = spd (gB 21) (b, s) → V P (rmz 3 74 0 0) Z [some (.ref (Z.ad 0)), some (.int (nI p)), v, v2, v3, some (.int (nI b)), some (.int (nI 10))] 156 [] g2 0 0) → V P (rmz 3 74 0 0) Z [some (.ref (Z.ad 0)), some (.int (nI p)), v, v2, v3, some (.int (nI b)), some (.int (nI k))] 120 [] g1 0 0 := by
    intro n
    induction n with
    | zero => intro k b s gB g1 v v2 v3 hn hk hb hr hi h21 K; exact absurd hn (Nat.not_lt_zero _)
    | succ n ih =>
      intro k b s gB g1 v v2 v3 hn hk hb hr hi h21 K
      refine v_iload C dX4_tryPoster_120 rfl ?_
      refine v_bipush (v := 10) C dX4_tryPoster_122 (by decide) ?_
      refine v_icmp_ge (tgt := 156) C dX4_tryPoster_124 (by decide) (fun h124 => ?_) (fun h124 => ?_)
      · have hk10 : k = 10 := Nat.le_antisymm hk ((nI_leI (a := 10) (by decide) (by omega)).mp h124)
        subst hk10
        exact K g1 hr (funext fun j => by rw [h21]; rfl)
      · have hk10 : ¬ 10 ≤ k := fun q => h124 ((nI_leI (a := 10) (by decide) (by omega)).mpr q)
        refine v_aload_n C dX4_tryPoster_127 rfl rfl ?_
        refine v_get C inG4 rfl 21 (by decide) (tg3 216 rfl rfl) rfl cx_M rfl dX4_tryPoster_128 ?_
        refine v_bipush (v := 10) C dX4_tryPoster_131 (by decide) ?_
        refine v_iload C dX4_tryPoster_133 rfl ?_
        refine v_imul C dX4_tryPoster_135 ?_
        refine v_iload C dX4_tryPoster_136 rfl ?_
        refine v_iadd C dX4_tryPoster_138 ?_
        refine v_topi (y := nI (10 * b + k)) (nI_10 b k) ?_
        refine v_dup2 C dX4_tryPoster_139 rfl rfl ?_
        refine v_ialdN (a := (10 * b + k)) C cxA21 (by omega) dX4_tryPoster_140 ?_
        refine v_aload_n C dX4_tryPoster_141 rfl rfl ?_
        refine v_get C inG4 rfl 25 (by decide) (tg3 220 rfl rfl) rfl cx_M rfl dX4_tryPoster_142 ?_
        refine v_iload C dX4_tryPoster_145 rfl ?_
        refine v_ialdN (a := k) C cxA25 (by omega) dX4_tryPoster_147 ?_
        refine v_iadd C dX4_tryPoster_148 ?_
        refine v_iastN (a := (10 * b + k)) C (fun _ _ => cxA21) rfl (by omega) (by omega) dX4_tryPoster_149 ?_
        refine v_iinc (lo' := [some (.ref (Z.ad 0)), some (.int (nI p)), v, v2, v3, some (.int (nI b)), some (.int ((nI k) + 1))]) C dX4_tryPoster_150 rfl rfl rfl rfl ?_
        refine v_lo (lo' := [some (.ref (Z.ad 0)), some (.int (nI p)), v, v2, v3, some (.int (nI b)), some (.int (nI (k + 1)))]) (by rw [← nI_1 k]) ?_
        refine v_goto (tgt := 120) C dX4_tryPoster_153 (by decide) ?_
        refine ih (k + 1) b s gB _ v v2 v3 (by omega) (by omega) hb (fun q hq => by rw [wr_row _ _ _ _ hq]; exact hr q hq) hi (fun j => ?_) K
        rw [hr 25 (by decide), hi k (by omega)]
        by_cases hj : j = 10 * b + k
        · rw [hj, wr_same, h21, if_neg (by omega), if_pos (by omega), Nat.add_sub_cancel_left]
        · rw [wr_ne _ _ _ _ (Or.inr hj), h21]
          by_cases hc : 10 * b ≤ j ∧ j < 10 * b + k
          · rw [if_pos hc, if_pos (by omega)]
          · rw [if_neg hc, if_neg (by omega)]
  have loopB : ∀ (n : Nat) (k : Nat) (acc : List (Nat × TS)) (g1 : MG) (v v2 v3 : Option Value), nl - k < n → k ≤ nl → frP g g1 → acc.length = k → (∀ i q, acc[i]? = some q → g1 22 i = nI q.1 ∧ g1 23 i = q.2.2.1 ∧ g1 24 i = q.2.2.2) → plA (okA (g 6) (g 7)) (g 9) (g 5) (g 13 p) nf (wds wd p k nl) acc (g1 21) = plM g p nl nf wd → V P (rmz 3 74 0 0) Z [some (.ref (Z.ad 0)), some (.int (nI p)), some (.int (flS acc)), some (.int (nI k)), v, v2, v3] 46 [] g1 0 0 := by
    intro n
    induction n with
    | zero => intro k acc g1 v v2 v3 hn hk hfr hl hi he; exact absurd hn (Nat.not_lt_zero _)
    | succ n ih =>
      intro k acc g1 v v2 v3 hn hk hfr hl hi he
      refine v_iload_n C dX4_tryPoster_46 rfl rfl ?_
      refine v_aload_n C dX4_tryPoster_47 rfl rfl ?_
      refine v_get C inG4 rfl 14 (by decide) (tg3 209 rfl rfl) rfl cx_M rfl dX4_tryPoster_48 ?_
      refine v_iload_n C dX4_tryPoster_51 rfl rfl ?_
      refine v_ialdN (a := p) C cxA14 ⟨hp, by decide⟩ dX4_tryPoster_52 ?_
      refine v_topi (y := nI nl) (by rw [hfr.1 14 (by omega) (by decide)]; exact hnl) ?_
      refine v_icmp_ge (tgt := 171) C dX4_tryPoster_53 (by decide) (fun h53 => ?_) (fun h53 => ?_)
      · have hkn : k = nl := Nat.le_antisymm hk ((nI_leI (by omega) (by omega)).mp h53)
        rw [wds_nil wd p (Nat.le_of_eq hkn.symm)] at he
        refine v_iload_n C dX4_tryPoster_171 rfl rfl ?_
        exact ret _ _ _ _ dX4_tryPoster_172 ⟨hfr, by rw [← he]; exact ⟨rfl, rfl, hi⟩⟩
      · have hkn : k < nl := Nat.lt_of_not_le fun q => h53 ((nI_leI (by omega) (by omega)).mpr q)
        rw [wds_cons wd p hkn] at he
        obtain ⟨w, hw⟩ : ∃ w, w = wd (4 * p + k) := ⟨_, rfl⟩
        have hw31 : w < 2 ^ 31 := by rw [hw]; exact (hW _ (by omega)).2
        rw [← hw] at he
        obtain ⟨b0, hb0⟩ : ∃ b0, b0 = boF (okA (g 6) (g 7)) (g 9) (g 5) (g 13 p) nf (g1 21) w := ⟨_, rfl⟩
        have e6 : g1 6 = g 6 := hfr.1 6 (by omega) (by decide)
        have e7 : g1 7 = g 7 := hfr.1 7 (by omega) (by decide)
        have e9 : g1 9 = g 9 := hfr.1 9 (by omega) (by decide)
        have e5 : g1 5 = g 5 := hfr.1 5 (by omega) (by decide)
        have e13 : g1 13 = g 13 := hfr.1 13 (by omega) (by decide)
        refine v_aload_n C dX4_tryPoster_56 rfl rfl ?_
        refine v_get C inG4 rfl 17 (by decide) (tg3 212 rfl rfl) rfl cx_M rfl dX4_tryPoster_57 ?_
        refine v_iconst (v := 4) C dX4_tryPoster_60 (by decide) ?_
        refine v_iload_n C dX4_tryPoster_61 rfl rfl ?_
        refine v_imul C dX4_tryPoster_62 ?_
        refine v_topi (y := nI (4 * p)) (by rw [show (4 : Int32) = nI 4 from rfl, nI_mul]) ?_
        refine v_iload_n C dX4_tryPoster_63 rfl rfl ?_
        refine v_iadd C dX4_tryPoster_64 ?_
        refine v_topi (y := nI (4 * p + k)) (nI_add _ _) ?_
        refine v_ialdN (a := (4 * p + k)) C cxA17 (by omega) dX4_tryPoster_65 ?_
        refine v_topi (y := nI w) (by rw [hfr.1 17 (by omega) (by decide), hw]; exact (hW _ (by omega)).1) ?_
        refine v_istore (lo' := [some (.ref (Z.ad 0)), some (.int (nI p)), some (.int (flS acc)), some (.int (nI k)), some (.int (nI w)), v2, v3]) C dX4_tryPoster_66 (Nat.le_of_ble_eq_true rfl) rfl rfl ?_
        refine v_aload_n C dX4_tryPoster_68 rfl rfl ?_
        refine v_iload_n C dX4_tryPoster_69 rfl rfl ?_
        refine v_iload C dX4_tryPoster_70 rfl ?_
        refine v_callVi (n := 2) (as := [.int (nI p), .int (nI w)]) C (c_bestOf _ Z p w nf g1 hp hw31 (by rw [e9]; exact hot) ((hfr.2 1 (by decide)).trans hnf) h5) (gv (tg4 100 rfl rfl) (tg4 102 rfl rfl) (tg0 24 rfl rfl) (tg1 6 rfl rfl) (tg4 103 rfl rfl)) (by decide +kernel) ⟨Nat.le_of_ble_eq_true rfl, Nat.le_of_ble_eq_true rfl⟩ rfl cx_M rfl rfl (Nat.le_of_ble_eq_true rfl) dX4_tryPoster_72 ⟨Nat.le_of_ble_eq_true rfl, Nat.le_of_ble_eq_true rfl⟩ (fun r72 g72 hp72 => ?_)
        obtain ⟨hfr2, hr72, -⟩ := hp72
        have hb1 : r72 = b0 := by rw [hr72, hb0, e5, e13]; unfold boF; rw [fvM_F, e6, e7, e9]
        subst hb1
        have hfr3 := hfr.trans hfr2.P
        have e21 : g72 21 = g1 21 := hfr2.1 21 (by decide) (by decide)
        refine v_istore (lo' := [some (.ref (Z.ad 0)), some (.int (nI p)), some (.int (flS acc)), some (.int (nI k)), some (.int (nI w)), some (.int r72), v3]) C dX4_tryPoster_75 (Nat.le_of_ble_eq_true rfl) rfl rfl ?_
        refine v_iload C dX4_tryPoster_77 rfl ?_
        refine v_iconst (v := (-1)) C dX4_tryPoster_79 (by decide) ?_
        refine v_icmp_ne (tgt := 85) C dX4_tryPoster_80 (by decide) (fun h80 => ?_) (fun h80 => ?_)
        · obtain ⟨b, hb5, hbe, -, hfb⟩ := (bo_ok (fv := fvF (okA (g 6) (g 7)) (g 9) (g1 21) w) (ht := g 5) (tall := g 13 p) nf 0 (0, -1) (by omega) (Or.inl rfl)).resolve_left (by rw [show (bo (fvF (okA (g 6) (g 7)) (g 9) (g1 21) w) (g 5) (g 13 p) nf 0 (0, -1)).2 = r72 from hb0.symm]; exact h80)
          have hbe : r72 = nI b := hb0.trans hbe
          obtain ⟨s, hs⟩ : ∃ s, tlR (okA (g 6) (g 7) (g1 21) b) (g 9) w (szw w) ts0 = some s := by
            cases hc : tlR (okA (g 6) (g 7) (g1 21) b) (g 9) w (szw w) ts0 with
            | none => exact absurd (show trv (tlR (okA (g 6) (g 7) (g1 21) b) (g 9) w (szw w) ts0) = -1 by rw [hc]; rfl) hfb
            | some s => exact ⟨s, rfl⟩
          have hst : plA (okA (g 6) (g 7)) (g 9) (g 5) (g 13 p) nf (w :: wds wd p (k + 1) nl) acc (g1 21) = plA (okA (g 6) (g 7)) (g 9) (g 5) (g 13 p) nf (wds wd p (k + 1) nl) (acc ++ [(b, s)]) (spd (g1 21) (b, s)) := by simp only [plA, pl1]; rw [← hb0, if_neg h80, hbe, iz_nI (by omega), hs]; rfl
          rw [hst] at he
          refine v_lo (lo' := [some (.ref (Z.ad 0)), some (.int (nI p)), some (.int (flS acc)), some (.int (nI k)), some (.int (nI w)), some (.int (nI b)), v3]) (by rw [hbe]) ?_
          refine v_aload_n C dX4_tryPoster_85 rfl rfl ?_
          refine v_get C inG4 rfl 22 (by decide) (tg3 217 rfl rfl) rfl cx_M rfl dX4_tryPoster_86 ?_
          refine v_iload_n C dX4_tryPoster_89 rfl rfl ?_
          refine v_iload C dX4_tryPoster_90 rfl ?_
          refine v_iastN (a := k) C (fun _ _ => cxA22) rfl (by omega) (by omega) dX4_tryPoster_92 ?_
          refine v_aload_n C dX4_tryPoster_93 rfl rfl ?_
          refine v_get C inG4 rfl 23 (by decide) (tg3 218 rfl rfl) rfl cx_M rfl dX4_tryPoster_94 ?_
          refine v_iload_n C dX4_tryPoster_97 rfl rfl ?_
          refine v_aload_n C dX4_tryPoster_98 rfl rfl ?_
          refine v_iload C dX4_tryPoster_99 rfl ?_
          refine v_iload C dX4_tryPoster_101 rfl ?_
          refine v_callVi (n := 2) (as := [.int (nI b), .int (nI w)]) C (c_tryLine _ Z b w (wr g72 22 k (nI b)) hb5 hw31 (by rw [wr_row _ _ _ _ (by decide), hfr3.1 9 (by omega) (by decide)]; exact hot)) (gv (tg4 104 rfl rfl) (tg4 106 rfl rfl) (tg0 25 rfl rfl) (tg1 6 rfl rfl) (tg4 107 rfl rfl)) (by decide +kernel) ⟨Nat.le_of_ble_eq_true rfl, Nat.le_of_ble_eq_true rfl⟩ rfl cx_M rfl rfl (Nat.le_of_ble_eq_true rfl) dX4_tryPoster_103 ⟨Nat.le_of_ble_eq_true rfl, Nat.le_of_ble_eq_true rfl⟩ (fun r103 g103 hp103 => ?_)
          obtain ⟨hfrL, hqL⟩ := hp103
          have hokL : okM (wr g72 22 k (nI b)) b = okA (g 6) (g 7) (g1 21) b := by rw [okM_A, wr_row _ _ _ _ (by decide), wr_row _ _ _ _ (by decide), wr_row _ _ _ _ (by decide), hfr3.1 6 (by omega) (by decide), hfr3.1 7 (by omega) (by decide), e21]
          have hqs : tlQ (some s) r103 g103 := by rw [← hs, ← hokL, ← hfr3.1 9 (by omega) (by decide), ← wr_row g72 22 k (nI b) (show 9 ≠ 22 by decide)]; exact hqL
          obtain ⟨hr1, hw1, hi1⟩ := hqs
          have hfr4 : frP g g103 := (hfr3.w k (nI b) (by omega)).trans hfrL.P
          have e22 : g103 22 = wr g72 22 k (nI b) 22 := hfrL.1 22 (by decide) (by decide)
          have e23 : g103 23 = g1 23 := ((hfrL.1 23 (by decide) (by decide)).trans (wr_row _ _ _ _ (by decide))).trans (hfr2.1 23 (by decide) (by decide))
          have e24 : g103 24 = g1 24 := ((hfrL.1 24 (by decide) (by decide)).trans (wr_row _ _ _ _ (by decide))).trans (hfr2.1 24 (by decide) (by decide))
          have e21b : g103 21 = g1 21 := ((hfrL.1 21 (by decide) (by decide)).trans (wr_row _ _ _ _ (by decide))).trans e21
          have e22b : g72 22 = g1 22 := hfr2.1 22 (by decide) (by decide)
          subst hr1
          refine v_iastN (a := k) C (fun _ _ => cxA23) rfl (by omega) (by omega) dX4_tryPoster_106 ?_
          refine v_aload_n C dX4_tryPoster_107 rfl rfl ?_
          refine v_get C inG4 rfl 24 (by decide) (tg3 219 rfl rfl) rfl cx_M rfl dX4_tryPoster_108 ?_
          refine v_iload_n C dX4_tryPoster_111 rfl rfl ?_
          refine v_aload_n C dX4_tryPoster_112 rfl rfl ?_
          refine v_get C inG4 rfl 26 (by decide) (tg3 221 rfl rfl) rfl cx_M rfl dX4_tryPoster_113 ?_
          refine v_topi (y := s.2.2) (by rw [wr_row _ _ _ _ (by decide)]; exact hw1) ?_
          refine v_iastN (a := k) C (fun _ _ => cxA24) rfl (by omega) (by omega) dX4_tryPoster_116 ?_
          refine v_iconst (v := 0) C dX4_tryPoster_117 (by decide) ?_
          refine v_istore (lo' := [some (.ref (Z.ad 0)), some (.int (nI p)), some (.int (flS acc)), some (.int (nI k)), some (.int (nI w)), some (.int (nI b)), some (.int 0)]) C dX4_tryPoster_118 (Nat.le_of_ble_eq_true rfl) rfl rfl ?_
          obtain ⟨gB, hgB⟩ : ∃ gB, gB = wr (wr g103 23 k s.2.1) 24 k s.2.2 := ⟨_, rfl⟩
          rw [← hgB]
          have hB : frP g gB := by rw [hgB]; exact (hfr4.w _ _ (by omega)).w _ _ (by omega)
          have hBi : ∀ i q, (acc ++ [(b, s)])[i]? = some q → gB 22 i = nI q.1 ∧ gB 23 i = q.2.2.1 ∧ gB 24 i = q.2.2.2 := by
            intro i q hq
            rw [hgB]
            by_cases hik : i = k
            · subst hik
              rw [List.getElem?_append_right (by omega), hl, Nat.sub_self] at hq
              cases hq
              refine ⟨?_, ?_, wr_same _ _ _ _⟩
              · rw [wr_row _ _ _ _ (by decide), wr_row _ _ _ _ (by decide), e22, wr_same]
              · rw [wr_row _ _ _ _ (by decide), wr_same]
            · have hlt : i < acc.length := by
                have h9 := (List.getElem?_eq_some_iff.mp hq).1
                rw [List.length_append, List.length_singleton] at h9
                omega
              rw [List.getElem?_append_left hlt] at hq
              obtain ⟨q1, q2, q3⟩ := hi i q hq
              refine ⟨?_, ?_, ?_⟩
              · rw [wr_row _ _ _ _ (by decide), wr_row _ _ _ _ (by decide), e22, wr_ne _ _ _ _ (Or.inr hik), e22b]; exact q1
              · rw [wr_row _ _ _ _ (by decide), wr_ne _ _ _ _ (Or.inr hik), e23]; exact q2
              · rw [wr_ne _ _ _ _ (Or.inr hik), wr_row _ _ _ _ (by decide), e24]; exact q3
          have hB21 : gB 21 = g1 21 := by rw [hgB, wr_row _ _ _ _ (by decide), wr_row _ _ _ _ (by decide)]; exact e21b
          have hB23 : gB 23 k = s.2.1 := by rw [hgB, wr_row _ _ _ _ (by decide), wr_same]
          have hB25 : ∀ l, l < 10 → gB 25 l = s.1 l := fun l h => by rw [hgB, wr_row _ _ _ _ (by decide), wr_row _ _ _ _ (by decide)]; exact hi1 l h
          refine loopC 11 0 b s gB gB _ _ _ (by omega) (by omega) hb5 (fun _ _ => rfl) hB25 (fun j => by rw [if_neg (by omega)]) (fun g2 h2r h221 => ?_)
          have h2P : frP g g2 := ⟨fun q h1 h2 => (h2r q (by omega)).trans (hB.1 q h1 h2), fun j hj => by rw [h2r 0 (by decide)]; exact hB.2 j hj⟩
          refine v_iload_n C dX4_tryPoster_156 rfl rfl ?_
          refine v_aload_n C dX4_tryPoster_157 rfl rfl ?_
          refine v_get C inG4 rfl 23 (by decide) (tg3 218 rfl rfl) rfl cx_M rfl dX4_tryPoster_158 ?_
          refine v_iload_n C dX4_tryPoster_161 rfl rfl ?_
          refine v_ialdN (a := k) C cxA23 (by omega) dX4_tryPoster_162 ?_
          refine v_topi (y := s.2.1) (by rw [h2r 23 (by decide)]; exact hB23) ?_
          refine v_iadd C dX4_tryPoster_163 ?_
          refine v_topi (y := flS (acc ++ [(b, s)])) (by rw [flS_app]) ?_
          refine v_istore_n (lo' := [some (.ref (Z.ad 0)), some (.int (nI p)), some (.int (flS (acc ++ [(b, s)]))), some (.int (nI k)), some (.int (nI w)), some (.int (nI b)), some (.int (nI 10))]) C dX4_tryPoster_164 rfl (Nat.le_of_ble_eq_true rfl) rfl rfl ?_
          refine v_iinc (lo' := [some (.ref (Z.ad 0)), some (.int (nI p)), some (.int (flS (acc ++ [(b, s)]))), some (.int ((nI k) + 1)), some (.int (nI w)), some (.int (nI b)), some (.int (nI 10))]) C dX4_tryPoster_165 rfl rfl rfl rfl ?_
          refine v_lo (lo' := [some (.ref (Z.ad 0)), some (.int (nI p)), some (.int (flS (acc ++ [(b, s)]))), some (.int (nI (k + 1))), some (.int (nI w)), some (.int (nI b)), some (.int (nI 10))]) (by rw [← nI_1 k]) ?_
          refine v_goto (tgt := 46) C dX4_tryPoster_168 (by decide) ?_
          exact ih (k + 1) (acc ++ [(b, s)]) g2 _ _ _ (by omega) (by omega) h2P (by rw [List.length_append, hl]; rfl) (fun i q hq => by rw [h2r 22 (by decide), h2r 23 (by decide), h2r 24 (by decide)]; exact hBi i q hq) (by rw [h221, hB21]; exact he)
        · have hno : plA (okA (g 6) (g 7)) (g 9) (g 5) (g 13 p) nf (w :: wds wd p (k + 1) nl) acc (g1 21) = none := by simp only [plA, pl1]; rw [← hb0, if_pos h80]; rfl
          rw [hno] at he
          refine v_iconst (v := (-1)) C dX4_tryPoster_83 (by decide) ?_
          exact ret _ _ _ _ dX4_tryPoster_84 ⟨hfr3, by rw [← he]; exact rfl⟩
  have loopA : ∀ (n : Nat) (k : Nat) (g1 : MG), 50 - k < n → k ≤ 50 → (∀ q, q ≠ 21 → g1 q = g q) → (∀ j, g1 21 j = if j < k then 0 else g 21 j) → V P (rmz 3 74 0 0) Z [some (.ref (Z.ad 0)), some (.int (nI p)), some (.int (nI k)), none, none, none, none] 2 [] g1 0 0 := by
    intro n
    induction n with
    | zero => intro k g1 hn hk hr h21; exact absurd hn (Nat.not_lt_zero _)
    | succ n ih =>
      intro k g1 hn hk hr h21
      refine v_iload_n C dX4_tryPoster_2 rfl rfl ?_
      refine v_bipush (v := 50) C dX4_tryPoster_3 (by decide) ?_
      refine v_icmp_ge (tgt := 21) C dX4_tryPoster_5 (by decide) (fun h5x => ?_) (fun h5x => ?_)
      · have hk50 : k = 50 := Nat.le_antisymm hk ((nI_leI (a := 50) (by decide) (by omega)).mp h5x)
        subst hk50
        have hfr : frP g g1 := ⟨fun q h1 h2 => hr q (by omega), fun j hj => by rw [hr 0 (by decide)]⟩
        refine v_aload_n C dX4_tryPoster_21 rfl rfl ?_
        refine v_get C inG4 rfl 15 (by decide) (tg3 210 rfl rfl) rfl cx_M rfl dX4_tryPoster_22 ?_
        refine v_iload_n C dX4_tryPoster_25 rfl rfl ?_
        refine v_ialdN (a := p) C cxA15 ⟨hp, by decide⟩ dX4_tryPoster_26 ?_
        refine v_iconst (v := 1) C dX4_tryPoster_27 (by decide) ?_
        rw [hr 15 (by decide)]
        refine v_icmp_eq (tgt := 40) C dX4_tryPoster_28 (by decide) (fun h28 => ?_) (fun h28 => ?_)
        · refine v_iconst (v := (-1)) C dX4_tryPoster_40 (by decide) ?_
          exact ret _ _ _ _ dX4_tryPoster_41 ⟨hfr, by unfold plM; rw [if_pos (Or.inl h28)]; exact rfl⟩
        · refine v_aload_n C dX4_tryPoster_31 rfl rfl ?_
          refine v_get C inG4 rfl 14 (by decide) (tg3 209 rfl rfl) rfl cx_M rfl dX4_tryPoster_32 ?_
          refine v_iload_n C dX4_tryPoster_35 rfl rfl ?_
          refine v_ialdN (a := p) C cxA14 ⟨hp, by decide⟩ dX4_tryPoster_36 ?_
          refine v_topi (y := nI nl) (by rw [hr 14 (by decide)]; exact hnl) ?_
          refine v_if_ne (tgt := 42) C dX4_tryPoster_37 (by decide) (fun h37 => ?_) (fun h37 => ?_)
          · refine v_iconst (v := 0) C dX4_tryPoster_42 (by decide) ?_
            refine v_istore_n (lo' := [some (.ref (Z.ad 0)), some (.int (nI p)), some (.int 0), none, none, none, none]) C dX4_tryPoster_43 rfl (Nat.le_of_ble_eq_true rfl) rfl rfl ?_
            refine v_iconst (v := 0) C dX4_tryPoster_44 (by decide) ?_
            refine v_istore_n (lo' := [some (.ref (Z.ad 0)), some (.int (nI p)), some (.int 0), some (.int 0), none, none, none]) C dX4_tryPoster_45 rfl (Nat.le_of_ble_eq_true rfl) rfl rfl ?_
            exact loopB (nl + 1) 0 [] g1 none none none (by omega) (Nat.zero_le _) hfr rfl (fun i q hq => by simp at hq) (by unfold plM; rw [if_neg (by rintro (q | q); (· exact h28 q); (· exact h37 (by rw [q]; rfl))), show g1 21 = moZ g from funext h21])
          · refine v_iconst (v := (-1)) C dX4_tryPoster_40 (by decide) ?_
            exact ret _ _ _ _ dX4_tryPoster_41 ⟨hfr, by unfold plM; rw [if_pos (Or.inr (nI_inj (by omega) (by decide) h37))]; exact rfl⟩
      · have hk50 : ¬ 50 ≤ k := fun q => h5x ((nI_leI (a := 50) (by decide) (by omega)).mpr q)
        refine v_aload_n C dX4_tryPoster_8 rfl rfl ?_
        refine v_get C inG4 rfl 21 (by decide) (tg3 216 rfl rfl) rfl cx_M rfl dX4_tryPoster_9 ?_
        refine v_iload_n C dX4_tryPoster_12 rfl rfl ?_
        refine v_iconst (v := 0) C dX4_tryPoster_13 (by decide) ?_
        refine v_iastN (a := k) C (fun _ _ => cxA21) rfl (by omega) (by omega) dX4_tryPoster_14 ?_
        refine v_iinc (lo' := [some (.ref (Z.ad 0)), some (.int (nI p)), some (.int ((nI k) + 1)), none, none, none, none]) C dX4_tryPoster_15 rfl rfl rfl rfl ?_
        refine v_lo (lo' := [some (.ref (Z.ad 0)), some (.int (nI p)), some (.int (nI (k + 1))), none, none, none, none]) (by rw [← nI_1 k]) ?_
        refine v_goto (tgt := 2) C dX4_tryPoster_18 (by decide) ?_
        refine ih (k + 1) _ (by omega) (by omega) (fun q hq => by rw [wr_row _ _ _ _ hq]; exact hr q hq) (fun j => ?_)
        by_cases hj : j = k
        · rw [hj, wr_same, if_pos (by omega)]
        · rw [wr_ne _ _ _ _ (Or.inr hj), h21]
          by_cases hc : j < k
          · rw [if_pos hc, if_pos (by omega)]
          · rw [if_neg hc, if_neg (by omega)]
  refine v_iconst (v := 0) C dX4_tryPoster_0 (by decide) ?_
  refine v_topi (y := nI 0) rfl ?_
  refine v_istore_n (lo' := [some (.ref (Z.ad 0)), some (.int (nI p)), some (.int (nI 0)), none, none, none, none]) C dX4_tryPoster_1 rfl (Nat.le_of_ble_eq_true rfl) rfl rfl ?_
  exact loopA 51 0 g (by omega) (by omega) (fun _ _ => rfl) (fun j => by rw [if_neg (Nat.not_lt_zero j)])
end
section
/-! THE REFERENCE: sums over a poster's lines -/
def sumI (f : Nat → Int32) : Nat → Int32
  | 0 => 0
  | n + 1 => sumI f n + f n
theorem sumI_cong {f h : Nat → Int32} : ∀ n, (∀ k, k < n → f k = h k) → sumI f n = sumI h n := by
  intro n
  induction n with
  | zero => intro _; rfl
  | succ n ih => intro hh; rw [sumI, sumI, ih (fun k hk => hh k (by omega)), hh n (by omega)]
def mx0 (x : Int32) : Int32 := if 0 < x then x else 0
def lfn (L : List (Nat × TS)) (k : Nat) : Nat := match L[k]? with
  | some q => q.1
  | none => 0
def cntD (t c : Nat) : Nat → Nat
  | 0 => 0
  | m + 1 => cntD t c m + (if t / 10 ^ m % 10 = c then 1 else 0)
theorem cntD_le (t c : Nat) : ∀ m, cntD t c m ≤ m := by
  intro m
  induction m with
  | zero => exact Nat.le_refl 0
  | succ m ih => unfold cntD; split <;> omega
def outN (fr : Nat → Int32) (tk wd : Nat → Nat) (p f c : Nat) : Nat → Nat
  | 0 => 0
  | k + 1 => outN fr tk wd p f c k + (if fr (4 * p + k) = nI f then cntD (tk (4 * p + k)) c (szw (wd (4 * p + k))) else 0)
theorem outN_le (fr : Nat → Int32) (tk wd : Nat → Nat) (p f c : Nat) : ∀ k, outN fr tk wd p f c k ≤ 10 * k := by
  intro k
  induction k with
  | zero => exact Nat.le_refl 0
  | succ k ih =>
    unfold outN
    have h1 := cntD_le (tk (4 * p + k)) c (szw (wd (4 * p + k)))
    have h2 : szw (wd (4 * p + k)) ≤ 10 := szw_le
    split <;> omega
set_option maxRecDepth 100000 in
theorem c_letters (l : Launch) (Z : Zc) (p nl : Nat) (wd : Nat → Nat) (g : MG) (hp : p < 6) (hnl : g 14 p = nI nl) (h4 : nl ≤ 4) (hW : ∀ j, j < 24 → g 17 j = nI (wd j) ∧ wd j < 2 ^ 31) : MI l yX4_letters cX4_letters 4 (some .int) (rmz 1 22 0 0) Z [.ref (Z.ad 0), .int (nI p)] g (fun r g' => r = sumI (fun k => nI (szw (wd (4 * p + k)))) nl ∧ g' = g) := by
  refine ent_i (own := RX4) (lo := [some (.ref (Z.ad 0)), some (.int (nI p)), none, none]) (by decide) rfl (by simp [lg_sl, Value.category]) rfl (fun P hl C ret => ?_)
  have loop : ∀ (n : Nat) (k : Nat), nl - k < n → k ≤ nl → V P (rmz 1 22 0 0) Z [some (.ref (Z.ad 0)), some (.int (nI p)), some (.int (sumI (fun k => nI (szw (wd (4 * p + k)))) k)), some (.int (nI k))] 4 [] g 0 0 := by
    intro n
    induction n with
    | zero => intro k hn hk; exact absurd hn (Nat.not_lt_zero _)
    | succ n ih =>
      intro k hn hk
      refine v_iload_n C dX4_letters_4 rfl rfl ?_
      refine v_aload_n C dX4_letters_5 rfl rfl ?_
      refine v_get C inG4 rfl 14 (by decide) (tg3 209 rfl rfl) rfl cx_M rfl dX4_letters_6 ?_
      refine v_iload_n C dX4_letters_9 rfl rfl ?_
      refine v_ialdN (a := p) C cxA14 ⟨hp, by decide⟩ dX4_letters_10 ?_
      refine v_topi (y := nI nl) hnl ?_
      refine v_icmp_ge (tgt := 36) C dX4_letters_11 (by decide) (fun h11 => ?_) (fun h11 => ?_)
      · have hkn : k = nl := Nat.le_antisymm hk ((nI_leI (by omega) (by omega)).mp h11)
        subst hkn
        refine v_iload_n C dX4_letters_36 rfl rfl ?_
        exact ret _ _ _ _ dX4_letters_37 ⟨rfl, rfl⟩
      · have hkn : k < nl := Nat.lt_of_not_le fun q => h11 ((nI_leI (by omega) (by omega)).mpr q)
        refine v_iload_n C dX4_letters_14 rfl rfl ?_
        refine v_aload_n C dX4_letters_15 rfl rfl ?_
        refine v_get C inG4 rfl 17 (by decide) (tg3 212 rfl rfl) rfl cx_M rfl dX4_letters_16 ?_
        refine v_iconst (v := 4) C dX4_letters_19 (by decide) ?_
        refine v_iload_n C dX4_letters_20 rfl rfl ?_
        refine v_imul C dX4_letters_21 ?_
        refine v_topi (y := nI (4 * p)) (by rw [show (4 : Int32) = nI 4 from rfl, nI_mul]) ?_
        refine v_iload_n C dX4_letters_22 rfl rfl ?_
        refine v_iadd C dX4_letters_23 ?_
        refine v_topi (y := nI (4 * p + k)) (nI_add _ _) ?_
        refine v_ialdN (a := (4 * p + k)) C cxA17 (by omega) dX4_letters_24 ?_
        refine v_topi (y := nI (wd (4 * p + k))) (hW _ (by omega)).1 ?_
        refine v_callSi (n := 1) (as := [.int (nI (wd (4 * p + k)))]) C (c_size _ Z (wd (4 * p + k)) g (hW _ (by omega)).2) (gs (tg4 108 rfl rfl) (tg4 109 rfl rfl) (tg1 6 rfl rfl) (tg4 110 rfl rfl)) (by decide +kernel) ⟨Nat.le_of_ble_eq_true rfl, Nat.le_of_ble_eq_true rfl⟩ rfl rfl (Nat.le_of_ble_eq_true rfl) dX4_letters_25 ⟨Nat.le_of_ble_eq_true rfl, Nat.le_of_ble_eq_true rfl⟩ (fun r25 g25 hp25 => ?_)
        obtain ⟨rfl, hg25⟩ := hp25
        rw [hg25]
        refine v_iadd C dX4_letters_28 ?_
        refine v_topi (y := sumI (fun k => nI (szw (wd (4 * p + k)))) (k + 1)) rfl ?_
        refine v_istore_n (lo' := [some (.ref (Z.ad 0)), some (.int (nI p)), some (.int (sumI (fun k => nI (szw (wd (4 * p + k)))) (k + 1))), some (.int (nI k))]) C dX4_letters_29 rfl (Nat.le_of_ble_eq_true rfl) rfl rfl ?_
        refine v_iinc (lo' := [some (.ref (Z.ad 0)), some (.int (nI p)), some (.int (sumI (fun k => nI (szw (wd (4 * p + k)))) (k + 1))), some (.int ((nI k) + 1))]) C dX4_letters_30 rfl rfl rfl rfl ?_
        refine v_lo (lo' := [some (.ref (Z.ad 0)), some (.int (nI p)), some (.int (sumI (fun k => nI (szw (wd (4 * p + k)))) (k + 1))), some (.int (nI (k + 1)))]) (by rw [← nI_1 k]) ?_
        refine v_goto (tgt := 4) C dX4_letters_33 (by decide) ?_
        exact ih (k + 1) (by omega) (by omega)
  refine v_iconst (v := 0) C dX4_letters_0 (by decide) ?_
  refine v_topi (y := sumI (fun k => nI (szw (wd (4 * p + k)))) 0) rfl ?_
  refine v_istore_n (lo' := [some (.ref (Z.ad 0)), some (.int (nI p)), some (.int (sumI (fun k => nI (szw (wd (4 * p + k)))) 0)), none]) C dX4_letters_1 rfl (Nat.le_of_ble_eq_true rfl) rfl rfl ?_
  refine v_iconst (v := 0) C dX4_letters_2 (by decide) ?_
  refine v_topi (y := nI 0) rfl ?_
  refine v_istore_n (lo' := [some (.ref (Z.ad 0)), some (.int (nI p)), some (.int (sumI (fun k => nI (szw (wd (4 * p + k)))) 0)), some (.int (nI 0))]) C dX4_letters_3 rfl (Nat.le_of_ble_eq_true rfl) rfl rfl ?_
  exact loop (nl + 1) 0 (by omega) (by omega)
def flO (g : MG) (p nl : Nat) : Int32 := if g 15 p = 1 then sumI (fun k => g 19 (4 * p + k)) nl else 0
set_option maxRecDepth 100000 in
theorem c_flawsOf (l : Launch) (Z : Zc) (p nl : Nat) (g : MG) (hp : p < 6) (hnl : g 14 p = nI nl) (h4 : nl ≤ 4) : MI l yX4_flawsOf cX4_flawsOf 4 (some .int) (rmz 0 0 0 0) Z [.ref (Z.ad 0), .int (nI p)] g (fun r g' => r = flO g p nl ∧ g' = g) := by
  refine ent_i (own := RX4) (lo := [some (.ref (Z.ad 0)), some (.int (nI p)), none, none]) (by decide) rfl (by simp [lg_sl, Value.category]) rfl (fun P hl C ret => ?_)
  have loop : ∀ (n : Nat) (k : Nat), nl - k < n → k ≤ nl → (k = 0 ∨ g 15 p = 1) → V P (rmz 0 0 0 0) Z [some (.ref (Z.ad 0)), some (.int (nI p)), some (.int (sumI (fun k => g 19 (4 * p + k)) k)), some (.int (nI k))] 4 [] g 0 0 := by
    intro n
    induction n with
    | zero => intro k hn hk h0; exact absurd hn (Nat.not_lt_zero _)
    | succ n ih =>
      intro k hn hk h0
      refine v_iload_n C dX4_flawsOf_4 rfl rfl ?_
      refine v_aload_n C dX4_flawsOf_5 rfl rfl ?_
      refine v_get C inG4 rfl 14 (by decide) (tg3 209 rfl rfl) rfl cx_M rfl dX4_flawsOf_6 ?_
      refine v_iload_n C dX4_flawsOf_9 rfl rfl ?_
      refine v_ialdN (a := p) C cxA14 ⟨hp, by decide⟩ dX4_flawsOf_10 ?_
      refine v_topi (y := nI nl) hnl ?_
      refine v_icmp_ge (tgt := 43) C dX4_flawsOf_11 (by decide) (fun h11 => ?_) (fun h11 => ?_)
      · have hkn : k = nl := Nat.le_antisymm hk ((nI_leI (by omega) (by omega)).mp h11)
        subst hkn
        refine v_iload_n C dX4_flawsOf_43 rfl rfl ?_
        exact ret _ _ _ _ dX4_flawsOf_44 ⟨by unfold flO; rcases h0 with h0 | h0; (· subst h0; split <;> rfl); (· rw [if_pos h0]), rfl⟩
      · have hkn : k < nl := Nat.lt_of_not_le fun q => h11 ((nI_leI (by omega) (by omega)).mpr q)
        refine v_aload_n C dX4_flawsOf_14 rfl rfl ?_
        refine v_get C inG4 rfl 15 (by decide) (tg3 210 rfl rfl) rfl cx_M rfl dX4_flawsOf_15 ?_
        refine v_iload_n C dX4_flawsOf_18 rfl rfl ?_
        refine v_ialdN (a := p) C cxA15 ⟨hp, by decide⟩ dX4_flawsOf_19 ?_
        refine v_iconst (v := 1) C dX4_flawsOf_20 (by decide) ?_
        refine v_icmp_ne (tgt := 43) C dX4_flawsOf_21 (by decide) (fun h21 => ?_) (fun h21 => ?_)
        · have hk0 : k = 0 := h0.resolve_right h21
          subst hk0
          refine v_iload_n C dX4_flawsOf_43 rfl rfl ?_
          exact ret _ _ _ _ dX4_flawsOf_44 ⟨by unfold flO; rw [if_neg h21]; rfl, rfl⟩
        · refine v_iload_n C dX4_flawsOf_24 rfl rfl ?_
          refine v_aload_n C dX4_flawsOf_25 rfl rfl ?_
          refine v_get C inG4 rfl 19 (by decide) (tg3 214 rfl rfl) rfl cx_M rfl dX4_flawsOf_26 ?_
          refine v_iconst (v := 4) C dX4_flawsOf_29 (by decide) ?_
          refine v_iload_n C dX4_flawsOf_30 rfl rfl ?_
          refine v_imul C dX4_flawsOf_31 ?_
          refine v_topi (y := nI (4 * p)) (by rw [show (4 : Int32) = nI 4 from rfl, nI_mul]) ?_
          refine v_iload_n C dX4_flawsOf_32 rfl rfl ?_
          refine v_iadd C dX4_flawsOf_33 ?_
          refine v_topi (y := nI (4 * p + k)) (nI_add _ _) ?_
          refine v_ialdN (a := (4 * p + k)) C cxA19 (by omega) dX4_flawsOf_34 ?_
          refine v_iadd C dX4_flawsOf_35 ?_
          refine v_topi (y := sumI (fun k => g 19 (4 * p + k)) (k + 1)) rfl ?_
          refine v_istore_n (lo' := [some (.ref (Z.ad 0)), some (.int (nI p)), some (.int (sumI (fun k => g 19 (4 * p + k)) (k + 1))), some (.int (nI k))]) C dX4_flawsOf_36 rfl (Nat.le_of_ble_eq_true rfl) rfl rfl ?_
          refine v_iinc (lo' := [some (.ref (Z.ad 0)), some (.int (nI p)), some (.int (sumI (fun k => g 19 (4 * p + k)) (k + 1))), some (.int ((nI k) + 1))]) C dX4_flawsOf_37 rfl rfl rfl rfl ?_
          refine v_lo (lo' := [some (.ref (Z.ad 0)), some (.int (nI p)), some (.int (sumI (fun k => g 19 (4 * p + k)) (k + 1))), some (.int (nI (k + 1)))]) (by rw [← nI_1 k]) ?_
          refine v_goto (tgt := 4) C dX4_flawsOf_40 (by decide) ?_
          exact ih (k + 1) (by omega) (by omega) (Or.inr h21)
  refine v_iconst (v := 0) C dX4_flawsOf_0 (by decide) ?_
  refine v_topi (y := sumI (fun k => g 19 (4 * p + k)) 0) rfl ?_
  refine v_istore_n (lo' := [some (.ref (Z.ad 0)), some (.int (nI p)), some (.int (sumI (fun k => g 19 (4 * p + k)) 0)), none]) C dX4_flawsOf_1 rfl (Nat.le_of_ble_eq_true rfl) rfl rfl ?_
  refine v_iconst (v := 0) C dX4_flawsOf_2 (by decide) ?_
  refine v_topi (y := nI 0) rfl ?_
  refine v_istore_n (lo' := [some (.ref (Z.ad 0)), some (.int (nI p)), some (.int (sumI (fun k => g 19 (4 * p + k)) 0)), some (.int (nI 0))]) C dX4_flawsOf_3 rfl (Nat.le_of_ble_eq_true rfl) rfl rfl ?_
  exact loop (nl + 1) 0 (by omega) (by omega) (Or.inl rfl)
set_option maxRecDepth 100000 in
theorem c_worth (l : Launch) (Z : Zc) (p t : Nat) (hi fl : Int32) (g : MG) (hp : p < 6) (ht : t < 4) (het : g 12 p = nI t) : MI l yX4_worth cX4_worth 4 (some .int) (rmz 1 13 0 0) Z [.ref (Z.ad 0), .int (nI p), .int hi, .int fl] g (fun r g' => r = mx0 (hi * g 10 t - fl * g 11 t) ∧ g' = g) := by
  refine ent_i (own := RX4) (lo := [some (.ref (Z.ad 0)), some (.int (nI p)), some (.int hi), some (.int fl)]) (by decide) rfl (by simp [lg_sl, Value.category]) rfl (fun P hl C ret => ?_)
  refine v_iconst (v := 0) C dX4_worth_0 (by decide) ?_
  refine v_iload_n C dX4_worth_1 rfl rfl ?_
  refine v_aload_n C dX4_worth_2 rfl rfl ?_
  refine v_get C inG4 rfl 10 (by decide) (tg3 205 rfl rfl) rfl cx_M rfl dX4_worth_3 ?_
  refine v_aload_n C dX4_worth_6 rfl rfl ?_
  refine v_get C inG4 rfl 12 (by decide) (tg3 207 rfl rfl) rfl cx_M rfl dX4_worth_7 ?_
  refine v_iload_n C dX4_worth_10 rfl rfl ?_
  refine v_ialdN (a := p) C cxA12 ⟨hp, by decide⟩ dX4_worth_11 ?_
  refine v_topi (y := nI t) het ?_
  refine v_ialdN (a := t) C cxA10 ⟨ht, by decide⟩ dX4_worth_12 ?_
  refine v_imul C dX4_worth_13 ?_
  refine v_iload_n C dX4_worth_14 rfl rfl ?_
  refine v_aload_n C dX4_worth_15 rfl rfl ?_
  refine v_get C inG4 rfl 11 (by decide) (tg3 206 rfl rfl) rfl cx_M rfl dX4_worth_16 ?_
  refine v_aload_n C dX4_worth_19 rfl rfl ?_
  refine v_get C inG4 rfl 12 (by decide) (tg3 207 rfl rfl) rfl cx_M rfl dX4_worth_20 ?_
  refine v_iload_n C dX4_worth_23 rfl rfl ?_
  refine v_ialdN (a := p) C cxA12 ⟨hp, by decide⟩ dX4_worth_24 ?_
  refine v_topi (y := nI t) het ?_
  refine v_ialdN (a := t) C cxA11 ⟨ht, by decide⟩ dX4_worth_25 ?_
  refine v_imul C dX4_worth_26 ?_
  refine v_isub C dX4_worth_27 ?_
  refine v_mmax C (tg4 143 rfl rfl) (tg1 182 rfl rfl) (tg1 14 rfl rfl) (tg1 183 rfl rfl) (Nat.le_of_ble_eq_true rfl) (Nat.le_of_ble_eq_true rfl) (Nat.le_of_ble_eq_true rfl) (Nat.le_of_ble_eq_true rfl) dX4_worth_28 ?_
  exact ret _ _ _ _ dX4_worth_31 ⟨rfl, rfl⟩
def prO (g : MG) (wd : Nat → Nat) (p nl t : Nat) : Int32 := if g 15 p = 0 then 0 else mx0 (sumI (fun k => g 5 (iz (g 18 (4 * p + k))) * nI (szw (wd (4 * p + k)))) nl * g 10 t - flO g p nl * g 11 t)
set_option maxRecDepth 100000 in
theorem c_proof (l : Launch) (Z : Zc) (p nl t : Nat) (wd : Nat → Nat) (g : MG) (hp : p < 6) (hnl : g 14 p = nI nl) (h4 : nl ≤ 4) (hW : ∀ j, j < 24 → g 17 j = nI (wd j) ∧ wd j < 2 ^ 31) (ht : t < 4) (het : g 12 p = nI t) (hF : g 15 p = 1 → ∀ k, k < nl → ∃ f, f < 5 ∧ g 18 (4 * p + k) = nI f) (h01 : g 15 p = 0 ∨ g 15 p = 1) : MI l yX4_proof cX4_proof 4 (some .int) (rmz 2 36 0 0) Z [.ref (Z.ad 0), .int (nI p)] g (fun r g' => r = prO g wd p nl t ∧ g' = g) := by
  refine ent_i (own := RX4) (lo := [some (.ref (Z.ad 0)), some (.int (nI p)), none, none]) (by decide) rfl (by simp [lg_sl, Value.category]) rfl (fun P hl C ret => ?_)
  by_cases h0 : g 15 p = 0
  · refine v_aload_n C dX4_proof_0 rfl rfl ?_
    refine v_get C inG4 rfl 15 (by decide) (tg3 210 rfl rfl) rfl cx_M rfl dX4_proof_1 ?_
    refine v_iload_n C dX4_proof_4 rfl rfl ?_
    refine v_ialdN (a := p) C cxA15 ⟨hp, by decide⟩ dX4_proof_5 ?_
    refine v_if_ne (tgt := 11) C dX4_proof_6 (by decide) (fun h6 => ?_) (fun h6 => ?_)
    · exact absurd h0 h6
    · refine v_iconst (v := 0) C dX4_proof_9 (by decide) ?_
      exact ret _ _ _ _ dX4_proof_10 ⟨by unfold prO; rw [if_pos h0], rfl⟩
  have loop : ∀ (n : Nat) (k : Nat), nl - k < n → k ≤ nl → V P (rmz 2 36 0 0) Z [some (.ref (Z.ad 0)), some (.int (nI p)), some (.int (sumI (fun k => g 5 (iz (g 18 (4 * p + k))) * nI (szw (wd (4 * p + k)))) k)), some (.int (nI k))] 15 [] g 0 0 := by
    intro n
    induction n with
    | zero => intro k hn hk; exact absurd hn (Nat.not_lt_zero _)
    | succ n ih =>
      intro k hn hk
      refine v_iload_n C dX4_proof_15 rfl rfl ?_
      refine v_aload_n C dX4_proof_16 rfl rfl ?_
      refine v_get C inG4 rfl 14 (by decide) (tg3 209 rfl rfl) rfl cx_M rfl dX4_proof_17 ?_
      refine v_iload_n C dX4_proof_20 rfl rfl ?_
      refine v_ialdN (a := p) C cxA14 ⟨hp, by decide⟩ dX4_proof_21 ?_
      refine v_topi (y := nI nl) hnl ?_
      refine v_icmp_ge (tgt := 63) C dX4_proof_22 (by decide) (fun h22 => ?_) (fun h22 => ?_)
      · have hkn : k = nl := Nat.le_antisymm hk ((nI_leI (by omega) (by omega)).mp h22)
        refine v_lo (lo' := [some (.ref (Z.ad 0)), some (.int (nI p)), some (.int (sumI (fun k => g 5 (iz (g 18 (4 * p + k))) * nI (szw (wd (4 * p + k)))) nl)), some (.int (nI k))]) (by rw [hkn]) ?_
        refine v_aload_n C dX4_proof_63 rfl rfl ?_
        refine v_iload_n C dX4_proof_64 rfl rfl ?_
        refine v_iload_n C dX4_proof_65 rfl rfl ?_
        refine v_aload_n C dX4_proof_66 rfl rfl ?_
        refine v_iload_n C dX4_proof_67 rfl rfl ?_
        refine v_callVi (n := 1) (as := [.int (nI p)]) C (c_flawsOf _ Z p nl g hp hnl h4) (gv (tg4 135 rfl rfl) (tg4 137 rfl rfl) (tg0 30 rfl rfl) (tg1 6 rfl rfl) (tg4 138 rfl rfl)) (by decide +kernel) ⟨Nat.le_of_ble_eq_true rfl, Nat.le_of_ble_eq_true rfl⟩ rfl cx_M rfl rfl (Nat.le_of_ble_eq_true rfl) dX4_proof_68 ⟨Nat.le_of_ble_eq_true rfl, Nat.le_of_ble_eq_true rfl⟩ (fun r68 g68 hp68 => ?_)
        obtain ⟨rfl, hg68⟩ := hp68
        rw [hg68]
        refine v_callVi (n := 3) (as := [.int (nI p), .int (sumI (fun k => g 5 (iz (g 18 (4 * p + k))) * nI (szw (wd (4 * p + k)))) nl), .int (flO g p nl)]) C (c_worth _ Z p t (sumI (fun k => g 5 (iz (g 18 (4 * p + k))) * nI (szw (wd (4 * p + k)))) nl) (flO g p nl) g hp ht het) (gv (tg4 139 rfl rfl) (tg4 141 rfl rfl) (tg0 31 rfl rfl) (tg1 6 rfl rfl) (tg4 142 rfl rfl)) (by decide +kernel) ⟨Nat.le_of_ble_eq_true rfl, Nat.le_of_ble_eq_true rfl⟩ rfl cx_M rfl rfl (Nat.le_of_ble_eq_true rfl) dX4_proof_71 ⟨Nat.le_of_ble_eq_true rfl, Nat.le_of_ble_eq_true rfl⟩ (fun r71 g71 hp71 => ?_)
        obtain ⟨rfl, hg71⟩ := hp71
        rw [hg71]
        exact ret _ _ _ _ dX4_proof_74 ⟨by unfold prO; rw [if_neg h0], rfl⟩
      · have hkn : k < nl := Nat.lt_of_not_le fun q => h22 ((nI_leI (by omega) (by omega)).mpr q)
        refine v_iload_n C dX4_proof_25 rfl rfl ?_
        refine v_aload_n C dX4_proof_26 rfl rfl ?_
        refine v_get C inG4 rfl 5 (by decide) (tg3 200 rfl rfl) rfl cx_M rfl dX4_proof_27 ?_
        refine v_aload_n C dX4_proof_30 rfl rfl ?_
        refine v_get C inG4 rfl 18 (by decide) (tg3 213 rfl rfl) rfl cx_M rfl dX4_proof_31 ?_
        refine v_iconst (v := 4) C dX4_proof_34 (by decide) ?_
        refine v_iload_n C dX4_proof_35 rfl rfl ?_
        refine v_imul C dX4_proof_36 ?_
        refine v_topi (y := nI (4 * p)) (by rw [show (4 : Int32) = nI 4 from rfl, nI_mul]) ?_
        refine v_iload_n C dX4_proof_37 rfl rfl ?_
        refine v_iadd C dX4_proof_38 ?_
        refine v_topi (y := nI (4 * p + k)) (nI_add _ _) ?_
        refine v_ialdN (a := (4 * p + k)) C cxA18 (by omega) dX4_proof_39 ?_
        obtain ⟨fr, hfr5, hfre⟩ := hF (h01.resolve_left h0) k hkn
        refine v_topi (y := nI fr) hfre ?_
        refine v_ialdN (a := fr) C cxA5 (by omega) dX4_proof_40 ?_
        refine v_aload_n C dX4_proof_41 rfl rfl ?_
        refine v_get C inG4 rfl 17 (by decide) (tg3 212 rfl rfl) rfl cx_M rfl dX4_proof_42 ?_
        refine v_iconst (v := 4) C dX4_proof_45 (by decide) ?_
        refine v_iload_n C dX4_proof_46 rfl rfl ?_
        refine v_imul C dX4_proof_47 ?_
        refine v_topi (y := nI (4 * p)) (by rw [show (4 : Int32) = nI 4 from rfl, nI_mul]) ?_
        refine v_iload_n C dX4_proof_48 rfl rfl ?_
        refine v_iadd C dX4_proof_49 ?_
        refine v_topi (y := nI (4 * p + k)) (nI_add _ _) ?_
        refine v_ialdN (a := (4 * p + k)) C cxA17 (by omega) dX4_proof_50 ?_
        refine v_topi (y := nI (wd (4 * p + k))) (hW _ (by omega)).1 ?_
        refine v_callSi (n := 1) (as := [.int (nI (wd (4 * p + k)))]) C (c_size _ Z (wd (4 * p + k)) g (hW _ (by omega)).2) (gs (tg4 108 rfl rfl) (tg4 109 rfl rfl) (tg1 6 rfl rfl) (tg4 110 rfl rfl)) (by decide +kernel) ⟨Nat.le_of_ble_eq_true rfl, Nat.le_of_ble_eq_true rfl⟩ rfl rfl (Nat.le_of_ble_eq_true rfl) dX4_proof_51 ⟨Nat.le_of_ble_eq_true rfl, Nat.le_of_ble_eq_true rfl⟩ (fun r51 g51 hp51 => ?_)
        obtain ⟨rfl, hg51⟩ := hp51
        rw [hg51]
        refine v_imul C dX4_proof_54 ?_
        refine v_iadd C dX4_proof_55 ?_
        refine v_topi (y := sumI (fun k => g 5 (iz (g 18 (4 * p + k))) * nI (szw (wd (4 * p + k)))) (k + 1)) (by rw [sumI, hfre, iz_nI (by omega)]) ?_
        refine v_istore_n (lo' := [some (.ref (Z.ad 0)), some (.int (nI p)), some (.int (sumI (fun k => g 5 (iz (g 18 (4 * p + k))) * nI (szw (wd (4 * p + k)))) (k + 1))), some (.int (nI k))]) C dX4_proof_56 rfl (Nat.le_of_ble_eq_true rfl) rfl rfl ?_
        refine v_iinc (lo' := [some (.ref (Z.ad 0)), some (.int (nI p)), some (.int (sumI (fun k => g 5 (iz (g 18 (4 * p + k))) * nI (szw (wd (4 * p + k)))) (k + 1))), some (.int ((nI k) + 1))]) C dX4_proof_57 rfl rfl rfl rfl ?_
        refine v_lo (lo' := [some (.ref (Z.ad 0)), some (.int (nI p)), some (.int (sumI (fun k => g 5 (iz (g 18 (4 * p + k))) * nI (szw (wd (4 * p + k)))) (k + 1))), some (.int (nI (k + 1)))]) (by rw [← nI_1 k]) ?_
        refine v_goto (tgt := 15) C dX4_proof_60 (by decide) ?_
        exact ih (k + 1) (by omega) (by omega)
  refine v_aload_n C dX4_proof_0 rfl rfl ?_
  refine v_get C inG4 rfl 15 (by decide) (tg3 210 rfl rfl) rfl cx_M rfl dX4_proof_1 ?_
  refine v_iload_n C dX4_proof_4 rfl rfl ?_
  refine v_ialdN (a := p) C cxA15 ⟨hp, by decide⟩ dX4_proof_5 ?_
  refine v_if_ne (tgt := 11) C dX4_proof_6 (by decide) (fun h6 => ?_) (fun h6 => ?_)
  · refine v_iconst (v := 0) C dX4_proof_11 (by decide) ?_
    refine v_topi (y := sumI (fun k => g 5 (iz (g 18 (4 * p + k))) * nI (szw (wd (4 * p + k)))) 0) rfl ?_
    refine v_istore_n (lo' := [some (.ref (Z.ad 0)), some (.int (nI p)), some (.int (sumI (fun k => g 5 (iz (g 18 (4 * p + k))) * nI (szw (wd (4 * p + k)))) 0)), none]) C dX4_proof_12 rfl (Nat.le_of_ble_eq_true rfl) rfl rfl ?_
    refine v_iconst (v := 0) C dX4_proof_13 (by decide) ?_
    refine v_topi (y := nI 0) rfl ?_
    refine v_istore_n (lo' := [some (.ref (Z.ad 0)), some (.int (nI p)), some (.int (sumI (fun k => g 5 (iz (g 18 (4 * p + k))) * nI (szw (wd (4 * p + k)))) 0)), some (.int (nI 0))]) C dX4_proof_14 rfl (Nat.le_of_ble_eq_true rfl) rfl rfl ?_
    exact loop (nl + 1) 0 (by omega) (by omega)
  · exact absurd h6 h0
set_option maxRecDepth 100000 in
theorem c_outOf (l : Launch) (Z : Zc) (p nl f c : Nat) (wd tk : Nat → Nat) (g : MG) (hp : p < 6) (hnl : g 14 p = nI nl) (h4 : nl ≤ 4) (hW : ∀ j, j < 24 → g 17 j = nI (wd j) ∧ wd j < 2 ^ 31) (hf : f < 5) (hc : c < 2 ^ 31) (hT : ∀ k, k < nl → g 20 (4 * p + k) = nI (tk (4 * p + k)) ∧ tk (4 * p + k) < 2 ^ 31) : MI l yX4_outOf cX4_outOf 8 (some .int) (rmz 1 23 0 0) Z [.ref (Z.ad 0), .int (nI p), .int (nI f), .int (nI c)] g (fun r g' => r = nI (outN (g 18) tk wd p f c nl) ∧ g' = g) := by
  have hc9 : True := trivial
  refine ent_i (own := RX4) (lo := [some (.ref (Z.ad 0)), some (.int (nI p)), some (.int (nI f)), some (.int (nI c)), none, none, none, none]) (by decide) rfl (by simp [lg_sl, Value.category]) rfl (fun P hl C ret => ?_)
  have loopI : ∀ (n : Nat) (m q k : Nat), m < n → m ≤ 10 → k < nl → V P (rmz 1 23 0 0) Z [some (.ref (Z.ad 0)), some (.int (nI p)), some (.int (nI f)), some (.int (nI c)), some (.int (nI (q + cntD (tk (4 * p + k)) c m))), some (.int (nI k)), some (.int (nI (4 * p + k))), some (.int (nI 0 - 1))] 90 [] g 0 0 → V P (rmz 1 23 0 0) Z [some (.ref (Z.ad 0)), some (.int (nI p)), some (.int (nI f)), some (.int (nI c)), some (.int (nI q)), some (.int (nI k)), some (.int (nI (4 * p + k))), some (.int (nI m - 1))] 53 [] g 0 0 := by
    intro n
    induction n with
    | zero => intro m q k hn hm hkn K; exact absurd hn (Nat.not_lt_zero _)
    | succ n ih =>
      intro m q k hn hm hkn K
      refine v_iload C dX4_outOf_53 rfl ?_
      refine v_if_lt (tgt := 90) C dX4_outOf_55 (by decide) (fun h55 => ?_) (fun h55 => ?_)
      · cases m with
        | succ m => exact absurd h55 (by rw [nI_pred]; exact nI_pos (by omega))
        | zero => exact K
      · cases m with
        | zero => exact absurd (show nI 0 - 1 < 0 by decide) h55
        | succ m =>
          refine v_lo (lo' := [some (.ref (Z.ad 0)), some (.int (nI p)), some (.int (nI f)), some (.int (nI c)), some (.int (nI q)), some (.int (nI k)), some (.int (nI (4 * p + k))), some (.int (nI m))]) (by rw [nI_pred]) ?_
          refine v_iload C dX4_outOf_58 rfl ?_
          refine v_aload_n C dX4_outOf_60 rfl rfl ?_
          refine v_get C inG4 rfl 20 (by decide) (tg3 215 rfl rfl) rfl cx_M rfl dX4_outOf_61 ?_
          refine v_iload C dX4_outOf_64 rfl ?_
          refine v_ialdN (a := (4 * p + k)) C cxA20 (by omega) dX4_outOf_66 ?_
          refine v_topi (y := nI (tk (4 * p + k))) (hT k hkn).1 ?_
          refine v_iload C dX4_outOf_67 rfl ?_
          refine v_callSi (n := 2) (as := [.int (nI (tk (4 * p + k))), .int (nI m)]) C (c_letterAt _ Z (tk (4 * p + k)) m g (hT k hkn).2 (by omega)) (gs (tg4 111 rfl rfl) (tg4 112 rfl rfl) (tg1 6 rfl rfl) (tg4 113 rfl rfl)) (by decide +kernel) ⟨Nat.le_of_ble_eq_true rfl, Nat.le_of_ble_eq_true rfl⟩ rfl rfl (Nat.le_of_ble_eq_true rfl) dX4_outOf_69 ⟨Nat.le_of_ble_eq_true rfl, Nat.le_of_ble_eq_true rfl⟩ (fun r69 g69 hp69 => ?_)
          obtain ⟨rfl, hg69⟩ := hp69
          rw [hg69]
          refine v_iload_n C dX4_outOf_72 rfl rfl ?_
          refine v_icmp_ne (tgt := 80) C dX4_outOf_73 (by decide) (fun h73 => ?_) (fun h73 => ?_)
          · have hne : ¬ tk (4 * p + k) / 10 ^ m % 10 = c := fun z => h73 (by rw [z])
            refine v_iconst (v := 0) C dX4_outOf_80 (by decide) ?_
            refine v_iadd C dX4_outOf_81 ?_
            refine v_topi (y := nI q) (by rw [Int32.add_zero]) ?_
            refine v_istore (lo' := [some (.ref (Z.ad 0)), some (.int (nI p)), some (.int (nI f)), some (.int (nI c)), some (.int (nI q)), some (.int (nI k)), some (.int (nI (4 * p + k))), some (.int (nI m))]) C dX4_outOf_82 (Nat.le_of_ble_eq_true rfl) rfl rfl ?_
            refine v_iinc (lo' := [some (.ref (Z.ad 0)), some (.int (nI p)), some (.int (nI f)), some (.int (nI c)), some (.int (nI q)), some (.int (nI k)), some (.int (nI (4 * p + k))), some (.int ((nI m) + (-1)))]) C dX4_outOf_84 rfl rfl rfl rfl ?_
            refine v_goto (tgt := 53) C dX4_outOf_87 (by decide) ?_
            refine v_lo (lo' := [some (.ref (Z.ad 0)), some (.int (nI p)), some (.int (nI f)), some (.int (nI c)), some (.int (nI q)), some (.int (nI k)), some (.int (nI (4 * p + k))), some (.int (nI m - 1))]) (by rw [Int32.sub_eq_add_neg]) ?_
            exact ih m q k (by omega) (by omega) hkn (by rw [show q + cntD (tk (4 * p + k)) c m = q + cntD (tk (4 * p + k)) c (m + 1) by rw [cntD, if_neg hne]; rfl]; exact K)
          · have hne : tk (4 * p + k) / 10 ^ m % 10 = c := nI_inj (Nat.lt_of_lt_of_le (Nat.mod_lt _ (by decide)) (by decide)) hc h73
            refine v_iconst (v := 1) C dX4_outOf_76 (by decide) ?_
            refine v_goto (tgt := 81) C dX4_outOf_77 (by decide) ?_
            refine v_iadd C dX4_outOf_81 ?_
            refine v_topi (y := nI (q + 1)) (nI_1 q) ?_
            refine v_istore (lo' := [some (.ref (Z.ad 0)), some (.int (nI p)), some (.int (nI f)), some (.int (nI c)), some (.int (nI (q + 1))), some (.int (nI k)), some (.int (nI (4 * p + k))), some (.int (nI m))]) C dX4_outOf_82 (Nat.le_of_ble_eq_true rfl) rfl rfl ?_
            refine v_iinc (lo' := [some (.ref (Z.ad 0)), some (.int (nI p)), some (.int (nI f)), some (.int (nI c)), some (.int (nI (q + 1))), some (.int (nI k)), some (.int (nI (4 * p + k))), some (.int ((nI m) + (-1)))]) C dX4_outOf_84 rfl rfl rfl rfl ?_
            refine v_goto (tgt := 53) C dX4_outOf_87 (by decide) ?_
            refine v_lo (lo' := [some (.ref (Z.ad 0)), some (.int (nI p)), some (.int (nI f)), some (.int (nI c)), some (.int (nI (q + 1))), some (.int (nI k)), some (.int (nI (4 * p + k))), some (.int (nI m - 1))]) (by rw [Int32.sub_eq_add_neg]) ?_
            exact ih m (q + 1) k (by omega) (by omega) hkn (by rw [show q + 1 + cntD (tk (4 * p + k)) c m = q + cntD (tk (4 * p + k)) c (m + 1) by rw [cntD, if_pos hne]; omega]; exact K)
  have loop : ∀ (n : Nat) (k : Nat) (v v2 : Option Value), nl - k < n → k ≤ nl → V P (rmz 1 23 0 0) Z [some (.ref (Z.ad 0)), some (.int (nI p)), some (.int (nI f)), some (.int (nI c)), some (.int (nI (outN (g 18) tk wd p f c k))), some (.int (nI k)), v, v2] 6 [] g 0 0 := by
    intro n
    induction n with
    | zero => intro k v v2 hn hk; exact absurd hn (Nat.not_lt_zero _)
    | succ n ih =>
      intro k v v2 hn hk
      refine v_iload C dX4_outOf_6 rfl ?_
      refine v_aload_n C dX4_outOf_8 rfl rfl ?_
      refine v_get C inG4 rfl 14 (by decide) (tg3 209 rfl rfl) rfl cx_M rfl dX4_outOf_9 ?_
      refine v_iload_n C dX4_outOf_12 rfl rfl ?_
      refine v_ialdN (a := p) C cxA14 ⟨hp, by decide⟩ dX4_outOf_13 ?_
      refine v_topi (y := nI nl) hnl ?_
      refine v_icmp_ge (tgt := 96) C dX4_outOf_14 (by decide) (fun h14 => ?_) (fun h14 => ?_)
      · have hkn : k = nl := Nat.le_antisymm hk ((nI_leI (by omega) (by omega)).mp h14)
        subst hkn
        refine v_iload C dX4_outOf_96 rfl ?_
        exact ret _ _ _ _ dX4_outOf_98 ⟨rfl, rfl⟩
      · have hkn : k < nl := Nat.lt_of_not_le fun q => h14 ((nI_leI (by omega) (by omega)).mpr q)
        refine v_iconst (v := 4) C dX4_outOf_17 (by decide) ?_
        refine v_iload_n C dX4_outOf_18 rfl rfl ?_
        refine v_imul C dX4_outOf_19 ?_
        refine v_topi (y := nI (4 * p)) (by rw [show (4 : Int32) = nI 4 from rfl, nI_mul]) ?_
        refine v_iload C dX4_outOf_20 rfl ?_
        refine v_iadd C dX4_outOf_22 ?_
        refine v_topi (y := nI (4 * p + k)) (nI_add _ _) ?_
        refine v_istore (lo' := [some (.ref (Z.ad 0)), some (.int (nI p)), some (.int (nI f)), some (.int (nI c)), some (.int (nI (outN (g 18) tk wd p f c k))), some (.int (nI k)), some (.int (nI (4 * p + k))), v2]) C dX4_outOf_23 (Nat.le_of_ble_eq_true rfl) rfl rfl ?_
        refine v_aload_n C dX4_outOf_25 rfl rfl ?_
        refine v_get C inG4 rfl 18 (by decide) (tg3 213 rfl rfl) rfl cx_M rfl dX4_outOf_26 ?_
        refine v_iload C dX4_outOf_29 rfl ?_
        refine v_ialdN (a := (4 * p + k)) C cxA18 (by omega) dX4_outOf_31 ?_
        refine v_iload_n C dX4_outOf_32 rfl rfl ?_
        refine v_icmp_eq (tgt := 39) C dX4_outOf_33 (by decide) (fun h33 => ?_) (fun h33 => ?_)
        · refine v_aload_n C dX4_outOf_39 rfl rfl ?_
          refine v_get C inG4 rfl 17 (by decide) (tg3 212 rfl rfl) rfl cx_M rfl dX4_outOf_40 ?_
          refine v_iload C dX4_outOf_43 rfl ?_
          refine v_ialdN (a := (4 * p + k)) C cxA17 (by omega) dX4_outOf_45 ?_
          refine v_topi (y := nI (wd (4 * p + k))) (hW _ (by omega)).1 ?_
          refine v_callSi (n := 1) (as := [.int (nI (wd (4 * p + k)))]) C (c_size _ Z (wd (4 * p + k)) g (hW _ (by omega)).2) (gs (tg4 108 rfl rfl) (tg4 109 rfl rfl) (tg1 6 rfl rfl) (tg4 110 rfl rfl)) (by decide +kernel) ⟨Nat.le_of_ble_eq_true rfl, Nat.le_of_ble_eq_true rfl⟩ rfl rfl (Nat.le_of_ble_eq_true rfl) dX4_outOf_46 ⟨Nat.le_of_ble_eq_true rfl, Nat.le_of_ble_eq_true rfl⟩ (fun r46 g46 hp46 => ?_)
          obtain ⟨rfl, hg46⟩ := hp46
          rw [hg46]
          refine v_iconst (v := 1) C dX4_outOf_49 (by decide) ?_
          refine v_isub C dX4_outOf_50 ?_
          refine v_istore (lo' := [some (.ref (Z.ad 0)), some (.int (nI p)), some (.int (nI f)), some (.int (nI c)), some (.int (nI (outN (g 18) tk wd p f c k))), some (.int (nI k)), some (.int (nI (4 * p + k))), some (.int ((nI (szw (wd (4 * p + k)))) - 1))]) C dX4_outOf_51 (Nat.le_of_ble_eq_true rfl) rfl rfl ?_
          refine loopI 11 (szw (wd (4 * p + k))) (outN (g 18) tk wd p f c k) k (by have := @szw_le (wd (4 * p + k)); omega) szw_le hkn ?_
          refine v_iinc (lo' := [some (.ref (Z.ad 0)), some (.int (nI p)), some (.int (nI f)), some (.int (nI c)), some (.int (nI (outN (g 18) tk wd p f c k + cntD (tk (4 * p + k)) c (szw (wd (4 * p + k)))))), some (.int ((nI k) + 1)), some (.int (nI (4 * p + k))), some (.int (nI 0 - 1))]) C dX4_outOf_90 rfl rfl rfl rfl ?_
          refine v_lo (lo' := [some (.ref (Z.ad 0)), some (.int (nI p)), some (.int (nI f)), some (.int (nI c)), some (.int (nI (outN (g 18) tk wd p f c k + cntD (tk (4 * p + k)) c (szw (wd (4 * p + k)))))), some (.int (nI (k + 1))), some (.int (nI (4 * p + k))), some (.int (nI 0 - 1))]) (by rw [← nI_1 k]) ?_
          refine v_goto (tgt := 6) C dX4_outOf_93 (by decide) ?_
          refine v_lo (lo' := [some (.ref (Z.ad 0)), some (.int (nI p)), some (.int (nI f)), some (.int (nI c)), some (.int (nI (outN (g 18) tk wd p f c (k + 1)))), some (.int (nI (k + 1))), some (.int (nI (4 * p + k))), some (.int (nI 0 - 1))]) (by rw [outN, if_pos h33]) ?_
          exact ih (k + 1) _ _ (by omega) (by omega)
        · refine v_goto (tgt := 90) C dX4_outOf_36 (by decide) ?_
          refine v_iinc (lo' := [some (.ref (Z.ad 0)), some (.int (nI p)), some (.int (nI f)), some (.int (nI c)), some (.int (nI (outN (g 18) tk wd p f c k))), some (.int ((nI k) + 1)), some (.int (nI (4 * p + k))), v2]) C dX4_outOf_90 rfl rfl rfl rfl ?_
          refine v_lo (lo' := [some (.ref (Z.ad 0)), some (.int (nI p)), some (.int (nI f)), some (.int (nI c)), some (.int (nI (outN (g 18) tk wd p f c k))), some (.int (nI (k + 1))), some (.int (nI (4 * p + k))), v2]) (by rw [← nI_1 k]) ?_
          refine v_goto (tgt := 6) C dX4_outOf_93 (by decide) ?_
          refine v_lo (lo' := [some (.ref (Z.ad 0)), some (.int (nI p)), some (.int (nI f)), some (.int (nI c)), some (.int (nI (outN (g 18) tk wd p f c (k + 1)))), some (.int (nI (k + 1))), some (.int (nI (4 * p + k))), v2]) (by rw [outN, if_neg h33]; rfl) ?_
          exact ih (k + 1) _ _ (by omega) (by omega)
  refine v_iconst (v := 0) C dX4_outOf_0 (by decide) ?_
  refine v_topi (y := nI (outN (g 18) tk wd p f c 0)) rfl ?_
  refine v_istore (lo' := [some (.ref (Z.ad 0)), some (.int (nI p)), some (.int (nI f)), some (.int (nI c)), some (.int (nI (outN (g 18) tk wd p f c 0))), none, none, none]) C dX4_outOf_1 (Nat.le_of_ble_eq_true rfl) rfl rfl ?_
  refine v_iconst (v := 0) C dX4_outOf_3 (by decide) ?_
  refine v_topi (y := nI 0) rfl ?_
  refine v_istore (lo' := [some (.ref (Z.ad 0)), some (.int (nI p)), some (.int (nI f)), some (.int (nI c)), some (.int (nI (outN (g 18) tk wd p f c 0))), some (.int (nI 0)), none, none]) C dX4_outOf_4 (Nat.le_of_ble_eq_true rfl) rfl rfl ?_
  exact loop (nl + 1) 0 _ _ (by omega) (by omega)
end
section
/-! WHAT EACH CALL ANSWERS AND LEAVES, said of the reference's rows; the reference's plain calls -/
def isN (n : Nat) (v : Int32) : Bool := decide (0 ≤ v.toInt) && decide (v.toInt < n)
theorem isN_t {n : Nat} {v : Int32} : isN n v = true ↔ 0 ≤ v.toInt ∧ v.toInt < n := by simp [isN]
theorem isN_nI {n : Nat} {v : Int32} (h : isN n v = true) : v = nI (iz v) ∧ iz v < n := by
  obtain ⟨h1, h2⟩ := isN_t.mp h
  refine ⟨(nI_iz h1).symm, ?_⟩
  have : (iz v : Int) = v.toInt := by unfold iz; rw [Int32.toNatClampNeg]; omega
  omega
theorem inB_isN {n : Nat} {v : Int32} (hn : n ≤ 100) : inB v 0 (nI n - 1) = isN n v := by
  have e : (nI n - 1).toInt = (n : Int) - 1 := by
    have h1 : (nI n).toInt = n := nI_toInt (by omega)
    have h2 : (1 : Int32).toInt = 1 := rfl
    rw [ti_sub] <;> omega
  have h0 : (0 : Int32).toInt = 0 := rfl
  by_cases h : 0 ≤ v.toInt ∧ v.toInt < n
  · rw [isN_t.mpr h, inB_t.mpr ⟨by omega, by omega⟩]
  · rw [show isN n v = false by cases hc : isN n v; rfl; exact absurd (isN_t.mp hc) h, inB_f.mpr (by omega)]
def mn (x y : Int32) : Int32 := if y < x then y else x
def rwr (g : MG) (k : Nat) (f : Nat → Int32) : MG := fun a => if a = k then f else g a
theorem rwr_same (g : MG) (k : Nat) (f : Nat → Int32) : rwr g k f k = f := if_pos rfl
theorem rwr_ne (g : MG) (k : Nat) (f : Nat → Int32) {q : Nat} (h : q ≠ k) : rwr g k f q = g q := if_neg h
abbrev nfO (g : MG) : Nat := iz (g 0 1)
abbrev npO (g : MG) : Nat := iz (g 0 2)
abbrev nlO (g : MG) (p : Nat) : Nat := iz (g 14 p)
abbrev wdO (g : MG) (j : Nat) : Nat := iz (g 17 j)
abbrev tkO (g : MG) (j : Nat) : Nat := iz (g 20 j)
/-- bounds that the reference's own walk needs -/
def IvM (g : MG) : Prop := (∃ n, n ≤ 5 ∧ g 0 1 = nI n) ∧ (∃ n, n ≤ 6 ∧ g 0 2 = nI n) ∧ otI (g 9) ∧ (∀ p, p < 6 → ∃ n, n ≤ 4 ∧ g 14 p = nI n) ∧ (∀ p, p < 6 → ∃ t, t < 4 ∧ g 12 p = nI t) ∧ (∀ p, p < 6 → g 15 p = 0 ∨ g 15 p = 1) ∧ (∀ j, j < 24 → ∃ w, w ≤ 99999999 ∧ g 17 j = nI w) ∧ (∀ p k, p < 6 → g 15 p = 1 → k < nlO g p → (∃ f, f < 5 ∧ g 18 (4 * p + k) = nI f) ∧ ∃ t, t ≤ 99999999 ∧ g 20 (4 * p + k) = nI t)
/-- alike in all that later calls can tell -/
def RE (g g' : MG) : Prop := (∀ j, 1 ≤ j → j ≤ 4 → g' 0 j = g 0 j) ∧ (∀ k, 5 ≤ k → k ≤ 17 → g' k = g k) ∧ ∀ p k, p < 6 → g 15 p = 1 → k < nlO g p → g' 18 (4 * p + k) = g 18 (4 * p + k) ∧ g' 19 (4 * p + k) = g 19 (4 * p + k) ∧ g' 20 (4 * p + k) = g 20 (4 * p + k)
theorem RE.rf {g : MG} : RE g g := ⟨fun _ _ _ => rfl, fun _ _ _ => rfl, fun _ _ _ _ _ => ⟨rfl, rfl, rfl⟩⟩
theorem RE.of {g g' : MG} (h0 : ∀ j, 1 ≤ j → j ≤ 4 → g' 0 j = g 0 j) (h : ∀ k, 5 ≤ k → k ≤ 20 → g' k = g k) : RE g g' := ⟨h0, fun k h1 h2 => h k h1 (by omega), fun p k _ _ _ => ⟨by rw [h 18 (by decide) (by decide)], by rw [h 19 (by decide) (by decide)], by rw [h 20 (by decide) (by decide)]⟩⟩
/-- the end of a call of the reference: what it threw, its answer, its rows; nothing else -/
def PM (g : MG) (cd : Nat) (an : Int32) (st : MG) (r : Int32) (g' : MG) : Prop := g' 0 0 = nI cd ∧ (cd = 0 → r = an) ∧ RE st g' ∧ ∀ q, 26 ≤ q → g' q = g q
theorem PM.no {g : MG} {cd k : Nat} {an : Int32} {st : MG} {r : Int32} {gx : MG} (h : cd = k) (hk : ¬ k = 0) (hst : st = g) (h0 : ∀ j, 1 ≤ j → j ≤ 4 → gx 0 j = g 0 j) (hx : ∀ q, 5 ≤ q → q ≤ 20 → gx q = g q) (hy : ∀ q, 26 ≤ q → gx q = g q) : PM g cd an st r (wr gx 0 0 (nI k)) := by
  subst h; subst hst
  refine ⟨wr_same _ _ _ _, fun q => absurd q hk, RE.of (fun j h1 h2 => by rw [wr_ne _ _ _ _ (Or.inr (by omega))]; exact h0 j h1 h2) (fun q h1 h2 => by rw [wr_row _ _ _ _ (by omega)]; exact hx q h1 h2), fun q hq => by rw [wr_row _ _ _ _ (by omega)]; exact hy q hq⟩
def cdFount (g : MG) (h : Int32) : Nat := if inB h 1 20 = false then 1 else if nfO g = 5 then 2 else 0
def stFount (g : MG) (h : Int32) : MG := if cdFount g h = 0 then wr (wr g 5 (nfO g) h) 0 1 (nI (nfO g + 1)) else g
def isFL (g : MG) (f k : Int32) : Bool := isN (nfO g) f && isN 10 k
def atO (f k : Int32) : Nat := 10 * iz f + iz k
def cdBuy (g : MG) (f k m : Int32) : Nat := if isFL g f k = false then 1 else if inB m 1 9 = false then 2 else if 9 < g 6 (atO f k) + m then 3 else 0
def stBuy (g : MG) (f k m : Int32) : MG := if cdBuy g f k m = 0 then wr g 6 (atO f k) (g 6 (atO f k) + m) else g
def cdBuyAll (g : MG) (f m : Int32) : Nat := if isN (nfO g) f = false then 1 else if inB m 1 9 = false then 2 else 0
def moB (g : MG) (m : Int32) (j : Nat) : Int32 := mn m (9 - g 6 j)
def anBuyAll (g : MG) (f m : Int32) : Int32 := sumI (fun k => moB g m (10 * iz f + k)) 10
def stBuyAll (g : MG) (f m : Int32) : MG := if cdBuyAll g f m = 0 then rwr g 6 (fun j => if 10 * iz f ≤ j ∧ j < 10 * iz f + 10 then g 6 j + moB g m j else g 6 j) else g
def cdSetOther (k o : Int32) : Nat := if isN 10 k = false ∨ (¬ o = -1 ∧ isN 10 o = false) then 1 else if k = o then 2 else 0
def stSetOther (g : MG) (k o : Int32) : MG := if cdSetOther k o = 0 then wr g 9 (iz k) o else g
def cdSetTown (t p s : Int32) : Nat := if isN 4 t = false then 1 else if inB p 0 9 = false ∨ inB s 0 30 = false then 2 else 0
def stSetTown (g : MG) (t p s : Int32) : MG := if cdSetTown t p s = 0 then wr (wr g 10 (iz t) p) 11 (iz t) s else g
def cdPoster (g : MG) (t h : Int32) : Nat := if isN 4 t = false then 1 else if inB h 1 20 = false then 2 else if npO g = 6 then 3 else 0
def stPoster (g : MG) (t h : Int32) : MG := if cdPoster g t h = 0 then wr (wr (wr g 12 (npO g) t) 13 (npO g) h) 0 2 (nI (npO g + 1)) else g
def cdLine (g : MG) (p w : Int32) : Nat := if isN (npO g) p = false then 1 else if inB w 0 99999999 = false then 2 else if g 15 (iz p) = 1 ∨ nlO g (iz p) = 4 then 3 else 0
def stLine (g : MG) (p w : Int32) : MG := if cdLine g p w = 0 then wr (wr g 17 (4 * iz p + nlO g (iz p)) w) 14 (iz p) (nI (nlO g (iz p) + 1)) else g
set_option maxRecDepth 100000 in
theorem c_isFount (l : Launch) (Z : Zc) (n : Nat) (f : Int32) (g : MG) (hn : g 0 1 = nI n) (hle : n ≤ 5) : MI l yX4_isFount cX4_isFount 2 (some .boolean) (rmz 1 22 0 0) Z [.ref (Z.ad 0), .int f] g (fun r g' => r = bI (isN n f) ∧ g' = g) := by
  refine ent_z (own := RX4) (lo := [some (.ref (Z.ad 0)), some (.int f)]) (by decide) rfl (by simp [lg_sl, Value.category]) rfl (fun P hl C ret => ?_)
  refine v_iload_n C dX4_isFount_0 rfl rfl ?_
  refine v_iconst (v := 0) C dX4_isFount_1 (by decide) ?_
  refine v_aload_n C dX4_isFount_2 rfl rfl ?_
  refine v_get C inG4 rfl 1 (by decide) (tg3 196 rfl rfl) rfl cx_M rfl dX4_isFount_3 ?_
  refine v_topi (y := nI n) hn ?_
  refine v_iconst (v := 1) C dX4_isFount_6 (by decide) ?_
  refine v_isub C dX4_isFount_7 ?_
  refine v_callSi (n := 3) (as := [.int f, .int 0, .int ((nI n) - 1)]) C (c_isIn _ Z f 0 (nI n - 1) g) (gs (tg4 45 rfl rfl) (tg4 46 rfl rfl) (tg1 6 rfl rfl) (tg4 47 rfl rfl)) (by decide +kernel) ⟨Nat.le_of_ble_eq_true rfl, Nat.le_of_ble_eq_true rfl⟩ rfl rfl (Nat.le_of_ble_eq_true rfl) dX4_isFount_8 ⟨Nat.le_of_ble_eq_true rfl, Nat.le_of_ble_eq_true rfl⟩ (fun r8 g8 hp8 => ?_)
  obtain ⟨rfl, hg8⟩ := hp8
  rw [hg8]
  refine v_topi (y := bI (isN n f)) (by rw [inB_isN (by omega)]) ?_
  exact ret _ _ _ _ dX4_isFount_11 (by cases isN n f <;> simp [bI]) ⟨rfl, rfl⟩
set_option maxRecDepth 100000 in
theorem c_isPoster (l : Launch) (Z : Zc) (n : Nat) (f : Int32) (g : MG) (hn : g 0 2 = nI n) (hle : n ≤ 6) : MI l yX4_isPoster cX4_isPoster 2 (some .boolean) (rmz 1 22 0 0) Z [.ref (Z.ad 0), .int f] g (fun r g' => r = bI (isN n f) ∧ g' = g) := by
  refine ent_z (own := RX4) (lo := [some (.ref (Z.ad 0)), some (.int f)]) (by decide) rfl (by simp [lg_sl, Value.category]) rfl (fun P hl C ret => ?_)
  refine v_iload_n C dX4_isPoster_0 rfl rfl ?_
  refine v_iconst (v := 0) C dX4_isPoster_1 (by decide) ?_
  refine v_aload_n C dX4_isPoster_2 rfl rfl ?_
  refine v_get C inG4 rfl 2 (by decide) (tg3 197 rfl rfl) rfl cx_M rfl dX4_isPoster_3 ?_
  refine v_topi (y := nI n) hn ?_
  refine v_iconst (v := 1) C dX4_isPoster_6 (by decide) ?_
  refine v_isub C dX4_isPoster_7 ?_
  refine v_callSi (n := 3) (as := [.int f, .int 0, .int ((nI n) - 1)]) C (c_isIn _ Z f 0 (nI n - 1) g) (gs (tg4 45 rfl rfl) (tg4 46 rfl rfl) (tg1 6 rfl rfl) (tg4 47 rfl rfl)) (by decide +kernel) ⟨Nat.le_of_ble_eq_true rfl, Nat.le_of_ble_eq_true rfl⟩ rfl rfl (Nat.le_of_ble_eq_true rfl) dX4_isPoster_8 ⟨Nat.le_of_ble_eq_true rfl, Nat.le_of_ble_eq_true rfl⟩ (fun r8 g8 hp8 => ?_)
  obtain ⟨rfl, hg8⟩ := hp8
  rw [hg8]
  refine v_topi (y := bI (isN n f)) (by rw [inB_isN (by omega)]) ?_
  exact ret _ _ _ _ dX4_isPoster_11 (by cases isN n f <;> simp [bI]) ⟨rfl, rfl⟩
set_option maxRecDepth 100000 in
theorem c_isLetter (l : Launch) (Z : Zc) (f : Int32) (g : MG) : MI l yX4_isLetter cX4_isLetter 1 (some .boolean) (rmz 1 22 0 0) Z [.int f] g (fun r g' => r = bI (isN 10 f) ∧ g' = g) := by
  refine ent_z (own := RX4) (lo := [some (.int f)]) (by decide) rfl (by simp [lg_sl, Value.category]) rfl (fun P hl C ret => ?_)
  refine v_iload_n C dX4_isLetter_0 rfl rfl ?_
  refine v_iconst (v := 0) C dX4_isLetter_1 (by decide) ?_
  refine v_bipush (v := 9) C dX4_isLetter_2 (by decide) ?_
  refine v_callSi (n := 3) (as := [.int f, .int 0, .int 9]) C (c_isIn _ Z f 0 9 g) (gs (tg4 45 rfl rfl) (tg4 46 rfl rfl) (tg1 6 rfl rfl) (tg4 47 rfl rfl)) (by decide +kernel) ⟨Nat.le_of_ble_eq_true rfl, Nat.le_of_ble_eq_true rfl⟩ rfl rfl (Nat.le_of_ble_eq_true rfl) dX4_isLetter_4 ⟨Nat.le_of_ble_eq_true rfl, Nat.le_of_ble_eq_true rfl⟩ (fun r4 g4 hp4 => ?_)
  obtain ⟨rfl, hg4⟩ := hp4
  rw [hg4]
  refine v_topi (y := bI (isN 10 f)) (by rw [← inB_isN (by decide), show nI 10 - 1 = 9 by decide]) ?_
  exact ret _ _ _ _ dX4_isLetter_7 (by cases isN 10 f <;> simp [bI]) ⟨rfl, rfl⟩
set_option maxRecDepth 100000 in
theorem c_isTown (l : Launch) (Z : Zc) (f : Int32) (g : MG) : MI l yX4_isTown cX4_isTown 1 (some .boolean) (rmz 1 22 0 0) Z [.int f] g (fun r g' => r = bI (isN 4 f) ∧ g' = g) := by
  refine ent_z (own := RX4) (lo := [some (.int f)]) (by decide) rfl (by simp [lg_sl, Value.category]) rfl (fun P hl C ret => ?_)
  refine v_iload_n C dX4_isTown_0 rfl rfl ?_
  refine v_iconst (v := 0) C dX4_isTown_1 (by decide) ?_
  refine v_iconst (v := 3) C dX4_isTown_2 (by decide) ?_
  refine v_callSi (n := 3) (as := [.int f, .int 0, .int 3]) C (c_isIn _ Z f 0 3 g) (gs (tg4 45 rfl rfl) (tg4 46 rfl rfl) (tg1 6 rfl rfl) (tg4 47 rfl rfl)) (by decide +kernel) ⟨Nat.le_of_ble_eq_true rfl, Nat.le_of_ble_eq_true rfl⟩ rfl rfl (Nat.le_of_ble_eq_true rfl) dX4_isTown_3 ⟨Nat.le_of_ble_eq_true rfl, Nat.le_of_ble_eq_true rfl⟩ (fun r3 g3 hp3 => ?_)
  obtain ⟨rfl, hg3⟩ := hp3
  rw [hg3]
  refine v_topi (y := bI (isN 4 f)) (by rw [← inB_isN (by decide), show nI 4 - 1 = 3 by decide]) ?_
  exact ret _ _ _ _ dX4_isTown_6 (by cases isN 4 f <;> simp [bI]) ⟨rfl, rfl⟩
set_option maxRecDepth 100000 in
theorem c_fount (l : Launch) (Z : Zc) (h : Int32) (g : MG) (hI : IvM g) : MI l yX4_fount cX4_fount 2 (some .int) (rmz 2 43 0 0) Z [.ref (Z.ad 0), .int h] g (PM g (cdFount g h) (nI (nfO g)) (stFount g h)) := by
  refine ent_i (own := RX4) (lo := [some (.ref (Z.ad 0)), some (.int h)]) (by decide) rfl (by simp [lg_sl, Value.category]) rfl (fun P hl C ret => ?_)
  obtain ⟨⟨nf, hf5, hnf⟩, ⟨np, hp6, hnp⟩, hot, hnl, htn, his, hwd, htk⟩ := id hI
  have enf : nfO g = nf := by unfold nfO; rw [hnf]; exact iz_nI (by omega)
  have enp : npO g = np := by unfold npO; rw [hnp]; exact iz_nI (by omega)
  refine v_aload_n C dX4_fount_0 rfl rfl ?_
  refine v_iconst (v := 0) C dX4_fount_1 (by decide) ?_
  refine v_put C inG4 rfl tyX4 tyX4_ok nmX4 0 (by decide) (tg3 195 rfl rfl) rfl rfl (ty := .int) rfl rfl rfl cx_M (Nat.le_of_ble_eq_true rfl) rfl (by omega) cx_M dX4_fount_2 ?_
  refine v_iload_n C dX4_fount_5 rfl rfl ?_
  refine v_iconst (v := 1) C dX4_fount_6 (by decide) ?_
  refine v_bipush (v := 20) C dX4_fount_7 (by decide) ?_
  refine v_callSi (n := 3) (as := [.int h, .int 1, .int 20]) C (c_isIn _ Z h 1 20 (wr g 0 0 0)) (gs (tg4 45 rfl rfl) (tg4 46 rfl rfl) (tg1 6 rfl rfl) (tg4 47 rfl rfl)) (by decide +kernel) ⟨Nat.le_of_ble_eq_true rfl, Nat.le_of_ble_eq_true rfl⟩ rfl rfl (Nat.le_of_ble_eq_true rfl) dX4_fount_9 ⟨Nat.le_of_ble_eq_true rfl, Nat.le_of_ble_eq_true rfl⟩ (fun r9 g9 hp9 => ?_)
  obtain ⟨rfl, hg9⟩ := hp9
  rw [hg9]
  refine v_if_ne (tgt := 21) C dX4_fount_12 (by decide) (fun h12 => ?_) (fun h12 => ?_)
  · have k12 := bI_1.mp h12
    refine v_aload_n C dX4_fount_21 rfl rfl ?_
    refine v_get C inG4 rfl 1 (by decide) (tg3 196 rfl rfl) rfl cx_M rfl dX4_fount_22 ?_
    refine v_topi (y := nI nf) hnf ?_
    refine v_iconst (v := 5) C dX4_fount_25 (by decide) ?_
    refine v_icmp_ne (tgt := 35) C dX4_fount_26 (by decide) (fun h26 => ?_) (fun h26 => ?_)
    · have h26x : ¬ nf = 5 := fun q => h26 (by rw [q]; rfl)
      have hcd : cdFount g h = 0 := by unfold cdFount; rw [if_neg (by rw [k12]; decide), enf, if_neg h26x]
      refine v_aload_n C dX4_fount_35 rfl rfl ?_
      refine v_get C inG4 rfl 5 (by decide) (tg3 200 rfl rfl) rfl cx_M rfl dX4_fount_36 ?_
      refine v_aload_n C dX4_fount_39 rfl rfl ?_
      refine v_get C inG4 rfl 1 (by decide) (tg3 196 rfl rfl) rfl cx_M rfl dX4_fount_40 ?_
      rw [show wr g 0 0 0 0 1 = nI nf from hnf]
      refine v_iload_n C dX4_fount_43 rfl rfl ?_
      refine v_iastN (a := nf) C (fun _ _ => cxA5) rfl (by omega) ⟨by omega, by decide⟩ dX4_fount_44 ?_
      refine v_aload_n C dX4_fount_45 rfl rfl ?_
      refine v_dup C dX4_fount_46 rfl ?_
      refine v_get C inG4 rfl 1 (by decide) (tg3 196 rfl rfl) rfl cx_M rfl dX4_fount_47 ?_
      refine v_topi (y := nI nf) (by rw [wr_row _ _ _ _ (by decide)]; exact hnf) ?_
      refine v_iconst (v := 1) C dX4_fount_50 (by decide) ?_
      refine v_iadd C dX4_fount_51 ?_
      refine v_topi (y := nI (nf + 1)) (nI_1 nf) ?_
      refine v_put C inG4 rfl tyX4 tyX4_ok nmX4 1 (by decide) (tg3 196 rfl rfl) rfl rfl (ty := .int) rfl rfl rfl cx_M (Nat.le_of_ble_eq_true rfl) rfl (by omega) cx_M dX4_fount_52 ?_
      refine v_aload_n C dX4_fount_55 rfl rfl ?_
      refine v_get C inG4 rfl 1 (by decide) (tg3 196 rfl rfl) rfl cx_M rfl dX4_fount_56 ?_
      refine v_topi (y := nI (nf + 1)) (wr_same _ _ _ _) ?_
      refine v_iconst (v := 1) C dX4_fount_59 (by decide) ?_
      refine v_isub C dX4_fount_60 ?_
      refine v_topi (y := nI nf) (nI_pred nf) ?_
      exact ret _ _ _ _ dX4_fount_61 ⟨by rw [hcd]; rfl, fun _ => by rw [enf], by unfold stFount; rw [if_pos hcd, enf]; exact RE.of (fun j h1 h2 => by simp only [wr, rwr]; repeat' (first | rfl | (exfalso; omega) | split)) (fun q h1 h2 => by funext b; simp only [wr, rwr]; repeat' (first | rfl | (exfalso; omega) | split)), fun q hq => by funext b; simp only [wr, rwr]; repeat' (first | rfl | (exfalso; omega) | split)⟩
    · have h26x : nf = 5 := nI_inj (by omega) (by decide) h26
      refine v_aload_n C dX4_fount_29 rfl rfl ?_
      refine v_iconst (v := 2) C dX4_fount_30 (by decide) ?_
      refine v_callVi (n := 1) (as := [.int 2]) C (c_no _ Z 2 (wr g 0 0 0)) (gv (tg4 48 rfl rfl) (tg4 50 rfl rfl) (tg0 20 rfl rfl) (tg1 6 rfl rfl) (tg4 51 rfl rfl)) (by decide +kernel) ⟨Nat.le_of_ble_eq_true rfl, Nat.le_of_ble_eq_true rfl⟩ rfl cx_M rfl rfl (Nat.le_of_ble_eq_true rfl) dX4_fount_31 ⟨Nat.le_of_ble_eq_true rfl, Nat.le_of_ble_eq_true rfl⟩ (fun r31 g31 hp31 => ?_)
      obtain ⟨rfl, hg31⟩ := hp31
      rw [hg31]
      exact ret _ _ _ _ dX4_fount_34 (PM.no (k := 2) (by unfold cdFount; rw [if_neg (by rw [k12]; decide), enf, if_pos h26x]) (by decide) (by unfold stFount; rw [if_neg (by rw [show cdFount g h = 2 by unfold cdFount; rw [if_neg (by rw [k12]; decide), enf, if_pos h26x]]; decide)]) (fun j h1 h2 => wr_ne _ _ _ _ (Or.inr (by omega))) (fun q h1 h2 => wr_row _ _ _ _ (by omega)) (fun q hq => wr_row _ _ _ _ (by omega)))
  · have k12 := bI_0.mp h12
    refine v_aload_n C dX4_fount_15 rfl rfl ?_
    refine v_iconst (v := 1) C dX4_fount_16 (by decide) ?_
    refine v_callVi (n := 1) (as := [.int 1]) C (c_no _ Z 1 (wr g 0 0 0)) (gv (tg4 48 rfl rfl) (tg4 50 rfl rfl) (tg0 20 rfl rfl) (tg1 6 rfl rfl) (tg4 51 rfl rfl)) (by decide +kernel) ⟨Nat.le_of_ble_eq_true rfl, Nat.le_of_ble_eq_true rfl⟩ rfl cx_M rfl rfl (Nat.le_of_ble_eq_true rfl) dX4_fount_17 ⟨Nat.le_of_ble_eq_true rfl, Nat.le_of_ble_eq_true rfl⟩ (fun r17 g17 hp17 => ?_)
    obtain ⟨rfl, hg17⟩ := hp17
    rw [hg17]
    exact ret _ _ _ _ dX4_fount_20 (PM.no (k := 1) (by unfold cdFount; rw [if_pos k12]) (by decide) (by unfold stFount; rw [if_neg (by rw [show cdFount g h = 1 by unfold cdFount; rw [if_pos k12]]; decide)]) (fun j h1 h2 => wr_ne _ _ _ _ (Or.inr (by omega))) (fun q h1 h2 => wr_row _ _ _ _ (by omega)) (fun q hq => wr_row _ _ _ _ (by omega)))
end
section
/-! THE REFERENCE: buy, buyAll, setOther, setTown, poster, line -/
theorem isN_ex {n : Nat} {v : Int32} (h : isN n v = true) : ∃ a, a < n ∧ v = nI a := ⟨iz v, (isN_nI h).2, (isN_nI h).1⟩
theorem atO_nI {f k : Nat} (hf : f < 5) (hk : k < 10) : atO (nI f) (nI k) = 10 * f + k := by unfold atO; rw [iz_nI (by omega), iz_nI (by omega)]
set_option maxRecDepth 100000 in
theorem c_setTown (l : Launch) (Z : Zc) (t p v : Int32) (g : MG) (hI : IvM g) : MI l yX4_setTown cX4_setTown 5 (some .int) (rmz 2 43 0 0) Z [.ref (Z.ad 0), .int t, .int p, .int v] g (PM g (cdSetTown t p v) (100 * g 10 (iz t) + g 11 (iz t)) (stSetTown g t p v)) := by
  refine ent_i (own := RX4) (lo := [some (.ref (Z.ad 0)), some (.int t), some (.int p), some (.int v), none]) (by decide) rfl (by simp [lg_sl, Value.category]) rfl (fun P hl C ret => ?_)
  obtain ⟨⟨nf, hf5, hnf⟩, ⟨np, hp6, hnp⟩, hot, hnl, htn, his, hwd, htk⟩ := id hI
  have enf : nfO g = nf := by unfold nfO; rw [hnf]; exact iz_nI (by omega)
  have enp : npO g = np := by unfold npO; rw [hnp]; exact iz_nI (by omega)
  refine v_aload_n C dX4_setTown_0 rfl rfl ?_
  refine v_iconst (v := 0) C dX4_setTown_1 (by decide) ?_
  refine v_put C inG4 rfl tyX4 tyX4_ok nmX4 0 (by decide) (tg3 195 rfl rfl) rfl rfl (ty := .int) rfl rfl rfl cx_M (Nat.le_of_ble_eq_true rfl) rfl (by omega) cx_M dX4_setTown_2 ?_
  refine v_iload_n C dX4_setTown_5 rfl rfl ?_
  refine v_callSi (n := 1) (as := [.int t]) C (c_isTown _ Z t (wr g 0 0 0)) (gs (tg4 76 rfl rfl) (tg4 77 rfl rfl) (tg1 6 rfl rfl) (tg4 78 rfl rfl)) (by decide +kernel) ⟨Nat.le_of_ble_eq_true rfl, Nat.le_of_ble_eq_true rfl⟩ rfl rfl (Nat.le_of_ble_eq_true rfl) dX4_setTown_6 ⟨Nat.le_of_ble_eq_true rfl, Nat.le_of_ble_eq_true rfl⟩ (fun r6 g6 hp6 => ?_)
  obtain ⟨rfl, hg6⟩ := hp6
  rw [hg6]
  refine v_if_ne (tgt := 18) C dX4_setTown_9 (by decide) (fun h9 => ?_) (fun h9 => ?_)
  · have k9 := bI_1.mp h9
    refine v_iload_n C dX4_setTown_18 rfl rfl ?_
    refine v_iconst (v := 0) C dX4_setTown_19 (by decide) ?_
    refine v_bipush (v := 9) C dX4_setTown_20 (by decide) ?_
    refine v_callSi (n := 3) (as := [.int p, .int 0, .int 9]) C (c_isIn _ Z p 0 9 (wr g 0 0 0)) (gs (tg4 45 rfl rfl) (tg4 46 rfl rfl) (tg1 6 rfl rfl) (tg4 47 rfl rfl)) (by decide +kernel) ⟨Nat.le_of_ble_eq_true rfl, Nat.le_of_ble_eq_true rfl⟩ rfl rfl (Nat.le_of_ble_eq_true rfl) dX4_setTown_22 ⟨Nat.le_of_ble_eq_true rfl, Nat.le_of_ble_eq_true rfl⟩ (fun r22 g22 hp22 => ?_)
    obtain ⟨rfl, hg22⟩ := hp22
    rw [hg22]
    refine v_if_eq (tgt := 38) C dX4_setTown_25 (by decide) (fun h25 => ?_) (fun h25 => ?_)
    · have k25 := bI_0.mp h25
      refine v_aload_n C dX4_setTown_38 rfl rfl ?_
      refine v_iconst (v := 2) C dX4_setTown_39 (by decide) ?_
      refine v_callVi (n := 1) (as := [.int 2]) C (c_no _ Z 2 (wr g 0 0 0)) (gv (tg4 48 rfl rfl) (tg4 50 rfl rfl) (tg0 20 rfl rfl) (tg1 6 rfl rfl) (tg4 51 rfl rfl)) (by decide +kernel) ⟨Nat.le_of_ble_eq_true rfl, Nat.le_of_ble_eq_true rfl⟩ rfl cx_M rfl rfl (Nat.le_of_ble_eq_true rfl) dX4_setTown_40 ⟨Nat.le_of_ble_eq_true rfl, Nat.le_of_ble_eq_true rfl⟩ (fun r40 g40 hp40 => ?_)
      obtain ⟨rfl, hg40⟩ := hp40
      rw [hg40]
      exact ret _ _ _ _ dX4_setTown_43 (PM.no (k := 2) (by unfold cdSetTown; rw [if_neg (by rw [k9]; decide), if_pos (Or.inl k25)]) (by decide) (by unfold stSetTown; rw [if_neg (by rw [show cdSetTown t p v = 2 by unfold cdSetTown; rw [if_neg (by rw [k9]; decide), if_pos (Or.inl k25)]]; decide)]) (fun j h1 h2 => wr_ne _ _ _ _ (Or.inr (by omega))) (fun q h1 h2 => wr_row _ _ _ _ (by omega)) (fun q hq => wr_row _ _ _ _ (by omega)))
    · have k25 := bI_1.mp h25
      refine v_iload_n C dX4_setTown_28 rfl rfl ?_
      refine v_iconst (v := 0) C dX4_setTown_29 (by decide) ?_
      refine v_bipush (v := 30) C dX4_setTown_30 (by decide) ?_
      refine v_callSi (n := 3) (as := [.int v, .int 0, .int 30]) C (c_isIn _ Z v 0 30 (wr g 0 0 0)) (gs (tg4 45 rfl rfl) (tg4 46 rfl rfl) (tg1 6 rfl rfl) (tg4 47 rfl rfl)) (by decide +kernel) ⟨Nat.le_of_ble_eq_true rfl, Nat.le_of_ble_eq_true rfl⟩ rfl rfl (Nat.le_of_ble_eq_true rfl) dX4_setTown_32 ⟨Nat.le_of_ble_eq_true rfl, Nat.le_of_ble_eq_true rfl⟩ (fun r32 g32 hp32 => ?_)
      obtain ⟨rfl, hg32⟩ := hp32
      rw [hg32]
      refine v_if_ne (tgt := 44) C dX4_setTown_35 (by decide) (fun h35 => ?_) (fun h35 => ?_)
      · have k35 := bI_1.mp h35
        have hcd : cdSetTown t p v = 0 := by unfold cdSetTown; rw [if_neg (by rw [k9]; decide), if_neg (by rw [k25, k35]; decide)]
        obtain ⟨a, ha, rfl⟩ := isN_ex k9
        have ea : iz (nI a) = a := iz_nI (by omega)
        refine v_bipush (v := 100) C dX4_setTown_44 (by decide) ?_
        refine v_aload_n C dX4_setTown_46 rfl rfl ?_
        refine v_get C inG4 rfl 10 (by decide) (tg3 205 rfl rfl) rfl cx_M rfl dX4_setTown_47 ?_
        refine v_iload_n C dX4_setTown_50 rfl rfl ?_
        refine v_ialdN (a := a) C cxA10 ⟨ha, by decide⟩ dX4_setTown_51 ?_
        refine v_imul C dX4_setTown_52 ?_
        refine v_aload_n C dX4_setTown_53 rfl rfl ?_
        refine v_get C inG4 rfl 11 (by decide) (tg3 206 rfl rfl) rfl cx_M rfl dX4_setTown_54 ?_
        refine v_iload_n C dX4_setTown_57 rfl rfl ?_
        refine v_ialdN (a := a) C cxA11 ⟨ha, by decide⟩ dX4_setTown_58 ?_
        refine v_iadd C dX4_setTown_59 ?_
        refine v_istore (lo' := [some (.ref (Z.ad 0)), some (.int (nI a)), some (.int p), some (.int v), some (.int ((100 * ((wr g 0 0 0) 10 a)) + ((wr g 0 0 0) 11 a)))]) C dX4_setTown_60 (Nat.le_of_ble_eq_true rfl) rfl rfl ?_
        refine v_aload_n C dX4_setTown_62 rfl rfl ?_
        refine v_get C inG4 rfl 10 (by decide) (tg3 205 rfl rfl) rfl cx_M rfl dX4_setTown_63 ?_
        refine v_iload_n C dX4_setTown_66 rfl rfl ?_
        refine v_iload_n C dX4_setTown_67 rfl rfl ?_
        refine v_iastN (a := a) C (fun _ _ => cxA10) rfl (by omega) ⟨ha, by decide⟩ dX4_setTown_68 ?_
        refine v_aload_n C dX4_setTown_69 rfl rfl ?_
        refine v_get C inG4 rfl 11 (by decide) (tg3 206 rfl rfl) rfl cx_M rfl dX4_setTown_70 ?_
        refine v_iload_n C dX4_setTown_73 rfl rfl ?_
        refine v_iload_n C dX4_setTown_74 rfl rfl ?_
        refine v_iastN (a := a) C (fun _ _ => cxA11) rfl (by omega) ⟨ha, by decide⟩ dX4_setTown_75 ?_
        refine v_iload C dX4_setTown_76 rfl ?_
        exact ret _ _ _ _ dX4_setTown_78 ⟨by rw [hcd]; rfl, fun _ => by rw [ea]; rfl, by unfold stSetTown; rw [if_pos hcd, ea]; exact RE.of (fun j h1 h2 => by simp only [wr, rwr]; repeat' (first | rfl | (exfalso; omega) | split)) (fun q h1 h2 => by funext b; simp only [wr, rwr]; repeat' (first | rfl | (exfalso; omega) | split)), fun q hq => by funext b; simp only [wr, rwr]; repeat' (first | rfl | (exfalso; omega) | split)⟩
      · have k35 := bI_0.mp h35
        refine v_aload_n C dX4_setTown_38 rfl rfl ?_
        refine v_iconst (v := 2) C dX4_setTown_39 (by decide) ?_
        refine v_callVi (n := 1) (as := [.int 2]) C (c_no _ Z 2 (wr g 0 0 0)) (gv (tg4 48 rfl rfl) (tg4 50 rfl rfl) (tg0 20 rfl rfl) (tg1 6 rfl rfl) (tg4 51 rfl rfl)) (by decide +kernel) ⟨Nat.le_of_ble_eq_true rfl, Nat.le_of_ble_eq_true rfl⟩ rfl cx_M rfl rfl (Nat.le_of_ble_eq_true rfl) dX4_setTown_40 ⟨Nat.le_of_ble_eq_true rfl, Nat.le_of_ble_eq_true rfl⟩ (fun r40 g40 hp40 => ?_)
        obtain ⟨rfl, hg40⟩ := hp40
        rw [hg40]
        exact ret _ _ _ _ dX4_setTown_43 (PM.no (k := 2) (by unfold cdSetTown; rw [if_neg (by rw [k9]; decide), if_pos (Or.inr k35)]) (by decide) (by unfold stSetTown; rw [if_neg (by rw [show cdSetTown t p v = 2 by unfold cdSetTown; rw [if_neg (by rw [k9]; decide), if_pos (Or.inr k35)]]; decide)]) (fun j h1 h2 => wr_ne _ _ _ _ (Or.inr (by omega))) (fun q h1 h2 => wr_row _ _ _ _ (by omega)) (fun q hq => wr_row _ _ _ _ (by omega)))
  · have k9 := bI_0.mp h9
    refine v_aload_n C dX4_setTown_12 rfl rfl ?_
    refine v_iconst (v := 1) C dX4_setTown_13 (by decide) ?_
    refine v_callVi (n := 1) (as := [.int 1]) C (c_no _ Z 1 (wr g 0 0 0)) (gv (tg4 48 rfl rfl) (tg4 50 rfl rfl) (tg0 20 rfl rfl) (tg1 6 rfl rfl) (tg4 51 rfl rfl)) (by decide +kernel) ⟨Nat.le_of_ble_eq_true rfl, Nat.le_of_ble_eq_true rfl⟩ rfl cx_M rfl rfl (Nat.le_of_ble_eq_true rfl) dX4_setTown_14 ⟨Nat.le_of_ble_eq_true rfl, Nat.le_of_ble_eq_true rfl⟩ (fun r14 g14 hp14 => ?_)
    obtain ⟨rfl, hg14⟩ := hp14
    rw [hg14]
    exact ret _ _ _ _ dX4_setTown_17 (PM.no (k := 1) (by unfold cdSetTown; rw [if_pos k9]) (by decide) (by unfold stSetTown; rw [if_neg (by rw [show cdSetTown t p v = 1 by unfold cdSetTown; rw [if_pos k9]]; decide)]) (fun j h1 h2 => wr_ne _ _ _ _ (Or.inr (by omega))) (fun q h1 h2 => wr_row _ _ _ _ (by omega)) (fun q hq => wr_row _ _ _ _ (by omega)))
set_option maxRecDepth 100000 in
theorem c_setOther (l : Launch) (Z : Zc) (k o : Int32) (g : MG) (hI : IvM g) : MI l yX4_setOther cX4_setOther 4 (some .int) (rmz 2 43 0 0) Z [.ref (Z.ad 0), .int k, .int o] g (PM g (cdSetOther k o) (g 9 (iz k)) (stSetOther g k o)) := by
  refine ent_i (own := RX4) (lo := [some (.ref (Z.ad 0)), some (.int k), some (.int o), none]) (by decide) rfl (by simp [lg_sl, Value.category]) rfl (fun P hl C ret => ?_)
  obtain ⟨⟨nf, hf5, hnf⟩, ⟨np, hp6, hnp⟩, hot, hnl, htn, his, hwd, htk⟩ := id hI
  have enf : nfO g = nf := by unfold nfO; rw [hnf]; exact iz_nI (by omega)
  have enp : npO g = np := by unfold npO; rw [hnp]; exact iz_nI (by omega)
  refine v_aload_n C dX4_setOther_0 rfl rfl ?_
  refine v_iconst (v := 0) C dX4_setOther_1 (by decide) ?_
  refine v_put C inG4 rfl tyX4 tyX4_ok nmX4 0 (by decide) (tg3 195 rfl rfl) rfl rfl (ty := .int) rfl rfl rfl cx_M (Nat.le_of_ble_eq_true rfl) rfl (by omega) cx_M dX4_setOther_2 ?_
  refine v_iload_n C dX4_setOther_5 rfl rfl ?_
  refine v_callSi (n := 1) (as := [.int k]) C (c_isLetter _ Z k (wr g 0 0 0)) (gs (tg4 60 rfl rfl) (tg4 61 rfl rfl) (tg1 6 rfl rfl) (tg4 62 rfl rfl)) (by decide +kernel) ⟨Nat.le_of_ble_eq_true rfl, Nat.le_of_ble_eq_true rfl⟩ rfl rfl (Nat.le_of_ble_eq_true rfl) dX4_setOther_6 ⟨Nat.le_of_ble_eq_true rfl, Nat.le_of_ble_eq_true rfl⟩ (fun r6 g6 hp6 => ?_)
  obtain ⟨rfl, hg6⟩ := hp6
  rw [hg6]
  refine v_if_eq (tgt := 24) C dX4_setOther_9 (by decide) (fun h9 => ?_) (fun h9 => ?_)
  · have k9 := bI_0.mp h9
    refine v_aload_n C dX4_setOther_24 rfl rfl ?_
    refine v_iconst (v := 1) C dX4_setOther_25 (by decide) ?_
    refine v_callVi (n := 1) (as := [.int 1]) C (c_no _ Z 1 (wr g 0 0 0)) (gv (tg4 48 rfl rfl) (tg4 50 rfl rfl) (tg0 20 rfl rfl) (tg1 6 rfl rfl) (tg4 51 rfl rfl)) (by decide +kernel) ⟨Nat.le_of_ble_eq_true rfl, Nat.le_of_ble_eq_true rfl⟩ rfl cx_M rfl rfl (Nat.le_of_ble_eq_true rfl) dX4_setOther_26 ⟨Nat.le_of_ble_eq_true rfl, Nat.le_of_ble_eq_true rfl⟩ (fun r26 g26 hp26 => ?_)
    obtain ⟨rfl, hg26⟩ := hp26
    rw [hg26]
    exact ret _ _ _ _ dX4_setOther_29 (PM.no (k := 1) (by unfold cdSetOther; rw [if_pos (Or.inl k9)]) (by decide) (by unfold stSetOther; rw [if_neg (by rw [show cdSetOther k o = 1 by unfold cdSetOther; rw [if_pos (Or.inl k9)]]; decide)]) (fun j h1 h2 => wr_ne _ _ _ _ (Or.inr (by omega))) (fun q h1 h2 => wr_row _ _ _ _ (by omega)) (fun q hq => wr_row _ _ _ _ (by omega)))
  · have k9 := bI_1.mp h9
    refine v_iload_n C dX4_setOther_12 rfl rfl ?_
    refine v_iconst (v := (-1)) C dX4_setOther_13 (by decide) ?_
    refine v_icmp_eq (tgt := 30) C dX4_setOther_14 (by decide) (fun h14 => ?_) (fun h14 => ?_)
    · refine v_iload_n C dX4_setOther_30 rfl rfl ?_
      refine v_iload_n C dX4_setOther_31 rfl rfl ?_
      refine v_icmp_ne (tgt := 41) C dX4_setOther_32 (by decide) (fun h32 => ?_) (fun h32 => ?_)
      · have hcd : cdSetOther k o = 0 := by unfold cdSetOther; rw [if_neg (by rintro (q | ⟨q1, q2⟩); (· rw [k9] at q; cases q); (· exact q1 h14)), if_neg h32]
        obtain ⟨a, ha, rfl⟩ := isN_ex k9
        have ea : iz (nI a) = a := iz_nI (by omega)
        refine v_aload_n C dX4_setOther_41 rfl rfl ?_
        refine v_get C inG4 rfl 9 (by decide) (tg3 204 rfl rfl) rfl cx_M rfl dX4_setOther_42 ?_
        refine v_iload_n C dX4_setOther_45 rfl rfl ?_
        refine v_ialdN (a := a) C cxA9 ⟨ha, by decide⟩ dX4_setOther_46 ?_
        refine v_istore_n (lo' := [some (.ref (Z.ad 0)), some (.int (nI a)), some (.int o), some (.int ((wr g 0 0 0) 9 a))]) C dX4_setOther_47 rfl (Nat.le_of_ble_eq_true rfl) rfl rfl ?_
        refine v_aload_n C dX4_setOther_48 rfl rfl ?_
        refine v_get C inG4 rfl 9 (by decide) (tg3 204 rfl rfl) rfl cx_M rfl dX4_setOther_49 ?_
        refine v_iload_n C dX4_setOther_52 rfl rfl ?_
        refine v_iload_n C dX4_setOther_53 rfl rfl ?_
        refine v_iastN (a := a) C (fun _ _ => cxA9) rfl (by omega) ⟨ha, by decide⟩ dX4_setOther_54 ?_
        refine v_iload_n C dX4_setOther_55 rfl rfl ?_
        exact ret _ _ _ _ dX4_setOther_56 ⟨by rw [hcd]; rfl, fun _ => by rw [ea]; rfl, by unfold stSetOther; rw [if_pos hcd, ea]; exact RE.of (fun j h1 h2 => by simp only [wr, rwr]; repeat' (first | rfl | (exfalso; omega) | split)) (fun q h1 h2 => by funext b; simp only [wr, rwr]; repeat' (first | rfl | (exfalso; omega) | split)), fun q hq => by funext b; simp only [wr, rwr]; repeat' (first | rfl | (exfalso; omega) | split)⟩
      · refine v_aload_n C dX4_setOther_35 rfl rfl ?_
        refine v_iconst (v := 2) C dX4_setOther_36 (by decide) ?_
        refine v_callVi (n := 1) (as := [.int 2]) C (c_no _ Z 2 (wr g 0 0 0)) (gv (tg4 48 rfl rfl) (tg4 50 rfl rfl) (tg0 20 rfl rfl) (tg1 6 rfl rfl) (tg4 51 rfl rfl)) (by decide +kernel) ⟨Nat.le_of_ble_eq_true rfl, Nat.le_of_ble_eq_true rfl⟩ rfl cx_M rfl rfl (Nat.le_of_ble_eq_true rfl) dX4_setOther_37 ⟨Nat.le_of_ble_eq_true rfl, Nat.le_of_ble_eq_true rfl⟩ (fun r37 g37 hp37 => ?_)
        obtain ⟨rfl, hg37⟩ := hp37
        rw [hg37]
        exact ret _ _ _ _ dX4_setOther_40 (PM.no (k := 2) (by unfold cdSetOther; rw [if_neg (by rintro (q | ⟨q1, q2⟩); (· rw [k9] at q; cases q); (· exact q1 h14)), if_pos h32]) (by decide) (by unfold stSetOther; rw [if_neg (by rw [show cdSetOther k o = 2 by unfold cdSetOther; rw [if_neg (by rintro (q | ⟨q1, q2⟩); (· rw [k9] at q; cases q); (· exact q1 h14)), if_pos h32]]; decide)]) (fun j h1 h2 => wr_ne _ _ _ _ (Or.inr (by omega))) (fun q h1 h2 => wr_row _ _ _ _ (by omega)) (fun q hq => wr_row _ _ _ _ (by omega)))
    · refine v_iload_n C dX4_setOther_17 rfl rfl ?_
      refine v_callSi (n := 1) (as := [.int o]) C (c_isLetter _ Z o (wr g 0 0 0)) (gs (tg4 60 rfl rfl) (tg4 61 rfl rfl) (tg1 6 rfl rfl) (tg4 62 rfl rfl)) (by decide +kernel) ⟨Nat.le_of_ble_eq_true rfl, Nat.le_of_ble_eq_true rfl⟩ rfl rfl (Nat.le_of_ble_eq_true rfl) dX4_setOther_18 ⟨Nat.le_of_ble_eq_true rfl, Nat.le_of_ble_eq_true rfl⟩ (fun r18 g18 hp18 => ?_)
      obtain ⟨rfl, hg18⟩ := hp18
      rw [hg18]
      refine v_if_ne (tgt := 30) C dX4_setOther_21 (by decide) (fun h21 => ?_) (fun h21 => ?_)
      · have k21 := bI_1.mp h21
        refine v_iload_n C dX4_setOther_30 rfl rfl ?_
        refine v_iload_n C dX4_setOther_31 rfl rfl ?_
        refine v_icmp_ne (tgt := 41) C dX4_setOther_32 (by decide) (fun h32 => ?_) (fun h32 => ?_)
        · have hcd : cdSetOther k o = 0 := by unfold cdSetOther; rw [if_neg (by rintro (q | ⟨q1, q2⟩); (· rw [k9] at q; cases q); (· rw [k21] at q2; cases q2)), if_neg h32]
          obtain ⟨a, ha, rfl⟩ := isN_ex k9
          have ea : iz (nI a) = a := iz_nI (by omega)
          refine v_aload_n C dX4_setOther_41 rfl rfl ?_
          refine v_get C inG4 rfl 9 (by decide) (tg3 204 rfl rfl) rfl cx_M rfl dX4_setOther_42 ?_
          refine v_iload_n C dX4_setOther_45 rfl rfl ?_
          refine v_ialdN (a := a) C cxA9 ⟨ha, by decide⟩ dX4_setOther_46 ?_
          refine v_istore_n (lo' := [some (.ref (Z.ad 0)), some (.int (nI a)), some (.int o), some (.int ((wr g 0 0 0) 9 a))]) C dX4_setOther_47 rfl (Nat.le_of_ble_eq_true rfl) rfl rfl ?_
          refine v_aload_n C dX4_setOther_48 rfl rfl ?_
          refine v_get C inG4 rfl 9 (by decide) (tg3 204 rfl rfl) rfl cx_M rfl dX4_setOther_49 ?_
          refine v_iload_n C dX4_setOther_52 rfl rfl ?_
          refine v_iload_n C dX4_setOther_53 rfl rfl ?_
          refine v_iastN (a := a) C (fun _ _ => cxA9) rfl (by omega) ⟨ha, by decide⟩ dX4_setOther_54 ?_
          refine v_iload_n C dX4_setOther_55 rfl rfl ?_
          exact ret _ _ _ _ dX4_setOther_56 ⟨by rw [hcd]; rfl, fun _ => by rw [ea]; rfl, by unfold stSetOther; rw [if_pos hcd, ea]; exact RE.of (fun j h1 h2 => by simp only [wr, rwr]; repeat' (first | rfl | (exfalso; omega) | split)) (fun q h1 h2 => by funext b; simp only [wr, rwr]; repeat' (first | rfl | (exfalso; omega) | split)), fun q hq => by funext b; simp only [wr, rwr]; repeat' (first | rfl | (exfalso; omega) | split)⟩
        · refine v_aload_n C dX4_setOther_35 rfl rfl ?_
          refine v_iconst (v := 2) C dX4_setOther_36 (by decide) ?_
          refine v_callVi (n := 1) (as := [.int 2]) C (c_no _ Z 2 (wr g 0 0 0)) (gv (tg4 48 rfl rfl) (tg4 50 rfl rfl) (tg0 20 rfl rfl) (tg1 6 rfl rfl) (tg4 51 rfl rfl)) (by decide +kernel) ⟨Nat.le_of_ble_eq_true rfl, Nat.le_of_ble_eq_true rfl⟩ rfl cx_M rfl rfl (Nat.le_of_ble_eq_true rfl) dX4_setOther_37 ⟨Nat.le_of_ble_eq_true rfl, Nat.le_of_ble_eq_true rfl⟩ (fun r37 g37 hp37 => ?_)
          obtain ⟨rfl, hg37⟩ := hp37
          rw [hg37]
          exact ret _ _ _ _ dX4_setOther_40 (PM.no (k := 2) (by unfold cdSetOther; rw [if_neg (by rintro (q | ⟨q1, q2⟩); (· rw [k9] at q; cases q); (· rw [k21] at q2; cases q2)), if_pos h32]) (by decide) (by unfold stSetOther; rw [if_neg (by rw [show cdSetOther k o = 2 by unfold cdSetOther; rw [if_neg (by rintro (q | ⟨q1, q2⟩); (· rw [k9] at q; cases q); (· rw [k21] at q2; cases q2)), if_pos h32]]; decide)]) (fun j h1 h2 => wr_ne _ _ _ _ (Or.inr (by omega))) (fun q h1 h2 => wr_row _ _ _ _ (by omega)) (fun q hq => wr_row _ _ _ _ (by omega)))
      · have k21 := bI_0.mp h21
        refine v_aload_n C dX4_setOther_24 rfl rfl ?_
        refine v_iconst (v := 1) C dX4_setOther_25 (by decide) ?_
        refine v_callVi (n := 1) (as := [.int 1]) C (c_no _ Z 1 (wr g 0 0 0)) (gv (tg4 48 rfl rfl) (tg4 50 rfl rfl) (tg0 20 rfl rfl) (tg1 6 rfl rfl) (tg4 51 rfl rfl)) (by decide +kernel) ⟨Nat.le_of_ble_eq_true rfl, Nat.le_of_ble_eq_true rfl⟩ rfl cx_M rfl rfl (Nat.le_of_ble_eq_true rfl) dX4_setOther_26 ⟨Nat.le_of_ble_eq_true rfl, Nat.le_of_ble_eq_true rfl⟩ (fun r26 g26 hp26 => ?_)
        obtain ⟨rfl, hg26⟩ := hp26
        rw [hg26]
        exact ret _ _ _ _ dX4_setOther_29 (PM.no (k := 1) (by unfold cdSetOther; rw [if_pos (Or.inr ⟨h14, k21⟩)]) (by decide) (by unfold stSetOther; rw [if_neg (by rw [show cdSetOther k o = 1 by unfold cdSetOther; rw [if_pos (Or.inr ⟨h14, k21⟩)]]; decide)]) (fun j h1 h2 => wr_ne _ _ _ _ (Or.inr (by omega))) (fun q h1 h2 => wr_row _ _ _ _ (by omega)) (fun q hq => wr_row _ _ _ _ (by omega)))
set_option maxRecDepth 100000 in
theorem c_poster (l : Launch) (Z : Zc) (t h : Int32) (g : MG) (hI : IvM g) : MI l yX4_poster cX4_poster 3 (some .int) (rmz 2 43 0 0) Z [.ref (Z.ad 0), .int t, .int h] g (PM g (cdPoster g t h) (nI (npO g)) (stPoster g t h)) := by
  refine ent_i (own := RX4) (lo := [some (.ref (Z.ad 0)), some (.int t), some (.int h)]) (by decide) rfl (by simp [lg_sl, Value.category]) rfl (fun P hl C ret => ?_)
  obtain ⟨⟨nf, hf5, hnf⟩, ⟨np, hp6, hnp⟩, hot, hnl, htn, his, hwd, htk⟩ := id hI
  have enf : nfO g = nf := by unfold nfO; rw [hnf]; exact iz_nI (by omega)
  have enp : npO g = np := by unfold npO; rw [hnp]; exact iz_nI (by omega)
  refine v_aload_n C dX4_poster_0 rfl rfl ?_
  refine v_iconst (v := 0) C dX4_poster_1 (by decide) ?_
  refine v_put C inG4 rfl tyX4 tyX4_ok nmX4 0 (by decide) (tg3 195 rfl rfl) rfl rfl (ty := .int) rfl rfl rfl cx_M (Nat.le_of_ble_eq_true rfl) rfl (by omega) cx_M dX4_poster_2 ?_
  refine v_iload_n C dX4_poster_5 rfl rfl ?_
  refine v_callSi (n := 1) (as := [.int t]) C (c_isTown _ Z t (wr g 0 0 0)) (gs (tg4 76 rfl rfl) (tg4 77 rfl rfl) (tg1 6 rfl rfl) (tg4 78 rfl rfl)) (by decide +kernel) ⟨Nat.le_of_ble_eq_true rfl, Nat.le_of_ble_eq_true rfl⟩ rfl rfl (Nat.le_of_ble_eq_true rfl) dX4_poster_6 ⟨Nat.le_of_ble_eq_true rfl, Nat.le_of_ble_eq_true rfl⟩ (fun r6 g6 hp6 => ?_)
  obtain ⟨rfl, hg6⟩ := hp6
  rw [hg6]
  refine v_if_ne (tgt := 18) C dX4_poster_9 (by decide) (fun h9 => ?_) (fun h9 => ?_)
  · have k9 := bI_1.mp h9
    refine v_iload_n C dX4_poster_18 rfl rfl ?_
    refine v_iconst (v := 1) C dX4_poster_19 (by decide) ?_
    refine v_bipush (v := 20) C dX4_poster_20 (by decide) ?_
    refine v_callSi (n := 3) (as := [.int h, .int 1, .int 20]) C (c_isIn _ Z h 1 20 (wr g 0 0 0)) (gs (tg4 45 rfl rfl) (tg4 46 rfl rfl) (tg1 6 rfl rfl) (tg4 47 rfl rfl)) (by decide +kernel) ⟨Nat.le_of_ble_eq_true rfl, Nat.le_of_ble_eq_true rfl⟩ rfl rfl (Nat.le_of_ble_eq_true rfl) dX4_poster_22 ⟨Nat.le_of_ble_eq_true rfl, Nat.le_of_ble_eq_true rfl⟩ (fun r22 g22 hp22 => ?_)
    obtain ⟨rfl, hg22⟩ := hp22
    rw [hg22]
    refine v_if_ne (tgt := 34) C dX4_poster_25 (by decide) (fun h25 => ?_) (fun h25 => ?_)
    · have k25 := bI_1.mp h25
      refine v_aload_n C dX4_poster_34 rfl rfl ?_
      refine v_get C inG4 rfl 2 (by decide) (tg3 197 rfl rfl) rfl cx_M rfl dX4_poster_35 ?_
      refine v_topi (y := nI np) (show _ = nI np from hnp) ?_
      refine v_bipush (v := 6) C dX4_poster_38 (by decide) ?_
      refine v_icmp_ne (tgt := 49) C dX4_poster_40 (by decide) (fun h40 => ?_) (fun h40 => ?_)
      · have h40x : ¬ np = 6 := fun q => h40 (by rw [q]; rfl)
        have hcd : cdPoster g t h = 0 := by unfold cdPoster; rw [if_neg (by rw [k9]; decide), if_neg (by rw [k25]; decide), enp, if_neg h40x]
        refine v_aload_n C dX4_poster_49 rfl rfl ?_
        refine v_get C inG4 rfl 12 (by decide) (tg3 207 rfl rfl) rfl cx_M rfl dX4_poster_50 ?_
        refine v_aload_n C dX4_poster_53 rfl rfl ?_
        refine v_get C inG4 rfl 2 (by decide) (tg3 197 rfl rfl) rfl cx_M rfl dX4_poster_54 ?_
        refine v_topi (y := nI np) (show _ = nI np from hnp) ?_
        refine v_iload_n C dX4_poster_57 rfl rfl ?_
        refine v_iastN (a := np) C (fun _ _ => cxA12) rfl (by omega) ⟨by omega, by decide⟩ dX4_poster_58 ?_
        refine v_aload_n C dX4_poster_59 rfl rfl ?_
        refine v_get C inG4 rfl 13 (by decide) (tg3 208 rfl rfl) rfl cx_M rfl dX4_poster_60 ?_
        refine v_aload_n C dX4_poster_63 rfl rfl ?_
        refine v_get C inG4 rfl 2 (by decide) (tg3 197 rfl rfl) rfl cx_M rfl dX4_poster_64 ?_
        refine v_topi (y := nI np) (by rw [wr_row _ _ _ _ (by decide)]; exact hnp) ?_
        refine v_iload_n C dX4_poster_67 rfl rfl ?_
        refine v_iastN (a := np) C (fun _ _ => cxA13) rfl (by omega) ⟨by omega, by decide⟩ dX4_poster_68 ?_
        refine v_aload_n C dX4_poster_69 rfl rfl ?_
        refine v_dup C dX4_poster_70 rfl ?_
        refine v_get C inG4 rfl 2 (by decide) (tg3 197 rfl rfl) rfl cx_M rfl dX4_poster_71 ?_
        refine v_topi (y := nI np) (by rw [wr_row _ _ _ _ (by decide), wr_row _ _ _ _ (by decide)]; exact hnp) ?_
        refine v_iconst (v := 1) C dX4_poster_74 (by decide) ?_
        refine v_iadd C dX4_poster_75 ?_
        refine v_topi (y := nI (np + 1)) (nI_1 np) ?_
        refine v_put C inG4 rfl tyX4 tyX4_ok nmX4 2 (by decide) (tg3 197 rfl rfl) rfl rfl (ty := .int) rfl rfl rfl cx_M (Nat.le_of_ble_eq_true rfl) rfl (by omega) cx_M dX4_poster_76 ?_
        refine v_aload_n C dX4_poster_79 rfl rfl ?_
        refine v_get C inG4 rfl 2 (by decide) (tg3 197 rfl rfl) rfl cx_M rfl dX4_poster_80 ?_
        refine v_topi (y := nI (np + 1)) (wr_same _ _ _ _) ?_
        refine v_iconst (v := 1) C dX4_poster_83 (by decide) ?_
        refine v_isub C dX4_poster_84 ?_
        refine v_topi (y := nI np) (nI_pred np) ?_
        exact ret _ _ _ _ dX4_poster_85 ⟨by rw [hcd]; rfl, fun _ => by rw [enp], by unfold stPoster; rw [if_pos hcd, enp]; exact RE.of (fun j h1 h2 => by simp only [wr, rwr]; repeat' (first | rfl | (exfalso; omega) | split)) (fun q h1 h2 => by funext b; simp only [wr, rwr]; repeat' (first | rfl | (exfalso; omega) | split)), fun q hq => by funext b; simp only [wr, rwr]; repeat' (first | rfl | (exfalso; omega) | split)⟩
      · have h40x : np = 6 := nI_inj (by omega) (by decide) h40
        refine v_aload_n C dX4_poster_43 rfl rfl ?_
        refine v_iconst (v := 3) C dX4_poster_44 (by decide) ?_
        refine v_callVi (n := 1) (as := [.int 3]) C (c_no _ Z 3 (wr g 0 0 0)) (gv (tg4 48 rfl rfl) (tg4 50 rfl rfl) (tg0 20 rfl rfl) (tg1 6 rfl rfl) (tg4 51 rfl rfl)) (by decide +kernel) ⟨Nat.le_of_ble_eq_true rfl, Nat.le_of_ble_eq_true rfl⟩ rfl cx_M rfl rfl (Nat.le_of_ble_eq_true rfl) dX4_poster_45 ⟨Nat.le_of_ble_eq_true rfl, Nat.le_of_ble_eq_true rfl⟩ (fun r45 g45 hp45 => ?_)
        obtain ⟨rfl, hg45⟩ := hp45
        rw [hg45]
        exact ret _ _ _ _ dX4_poster_48 (PM.no (k := 3) (by unfold cdPoster; rw [if_neg (by rw [k9]; decide), if_neg (by rw [k25]; decide), enp, if_pos h40x]) (by decide) (by unfold stPoster; rw [if_neg (by rw [show cdPoster g t h = 3 by unfold cdPoster; rw [if_neg (by rw [k9]; decide), if_neg (by rw [k25]; decide), enp, if_pos h40x]]; decide)]) (fun j h1 h2 => wr_ne _ _ _ _ (Or.inr (by omega))) (fun q h1 h2 => wr_row _ _ _ _ (by omega)) (fun q hq => wr_row _ _ _ _ (by omega)))
    · have k25 := bI_0.mp h25
      refine v_aload_n C dX4_poster_28 rfl rfl ?_
      refine v_iconst (v := 2) C dX4_poster_29 (by decide) ?_
      refine v_callVi (n := 1) (as := [.int 2]) C (c_no _ Z 2 (wr g 0 0 0)) (gv (tg4 48 rfl rfl) (tg4 50 rfl rfl) (tg0 20 rfl rfl) (tg1 6 rfl rfl) (tg4 51 rfl rfl)) (by decide +kernel) ⟨Nat.le_of_ble_eq_true rfl, Nat.le_of_ble_eq_true rfl⟩ rfl cx_M rfl rfl (Nat.le_of_ble_eq_true rfl) dX4_poster_30 ⟨Nat.le_of_ble_eq_true rfl, Nat.le_of_ble_eq_true rfl⟩ (fun r30 g30 hp30 => ?_)
      obtain ⟨rfl, hg30⟩ := hp30
      rw [hg30]
      exact ret _ _ _ _ dX4_poster_33 (PM.no (k := 2) (by unfold cdPoster; rw [if_neg (by rw [k9]; decide), if_pos k25]) (by decide) (by unfold stPoster; rw [if_neg (by rw [show cdPoster g t h = 2 by unfold cdPoster; rw [if_neg (by rw [k9]; decide), if_pos k25]]; decide)]) (fun j h1 h2 => wr_ne _ _ _ _ (Or.inr (by omega))) (fun q h1 h2 => wr_row _ _ _ _ (by omega)) (fun q hq => wr_row _ _ _ _ (by omega)))
  · have k9 := bI_0.mp h9
    refine v_aload_n C dX4_poster_12 rfl rfl ?_
    refine v_iconst (v := 1) C dX4_poster_13 (by decide) ?_
    refine v_callVi (n := 1) (as := [.int 1]) C (c_no _ Z 1 (wr g 0 0 0)) (gv (tg4 48 rfl rfl) (tg4 50 rfl rfl) (tg0 20 rfl rfl) (tg1 6 rfl rfl) (tg4 51 rfl rfl)) (by decide +kernel) ⟨Nat.le_of_ble_eq_true rfl, Nat.le_of_ble_eq_true rfl⟩ rfl cx_M rfl rfl (Nat.le_of_ble_eq_true rfl) dX4_poster_14 ⟨Nat.le_of_ble_eq_true rfl, Nat.le_of_ble_eq_true rfl⟩ (fun r14 g14 hp14 => ?_)
    obtain ⟨rfl, hg14⟩ := hp14
    rw [hg14]
    exact ret _ _ _ _ dX4_poster_17 (PM.no (k := 1) (by unfold cdPoster; rw [if_pos k9]) (by decide) (by unfold stPoster; rw [if_neg (by rw [show cdPoster g t h = 1 by unfold cdPoster; rw [if_pos k9]]; decide)]) (fun j h1 h2 => wr_ne _ _ _ _ (Or.inr (by omega))) (fun q h1 h2 => wr_row _ _ _ _ (by omega)) (fun q hq => wr_row _ _ _ _ (by omega)))
set_option maxRecDepth 100000 in
theorem c_line (l : Launch) (Z : Zc) (p v : Int32) (g : MG) (hI : IvM g) : MI l yX4_line cX4_line 3 (some .int) (rmz 2 43 0 0) Z [.ref (Z.ad 0), .int p, .int v] g (PM g (cdLine g p v) (nI (nlO g (iz p))) (stLine g p v)) := by
  refine ent_i (own := RX4) (lo := [some (.ref (Z.ad 0)), some (.int p), some (.int v)]) (by decide) rfl (by simp [lg_sl, Value.category]) rfl (fun P hl C ret => ?_)
  obtain ⟨⟨nf, hf5, hnf⟩, ⟨np, hp6, hnp⟩, hot, hnl, htn, his, hwd, htk⟩ := id hI
  have enf : nfO g = nf := by unfold nfO; rw [hnf]; exact iz_nI (by omega)
  have enp : npO g = np := by unfold npO; rw [hnp]; exact iz_nI (by omega)
  refine v_aload_n C dX4_line_0 rfl rfl ?_
  refine v_iconst (v := 0) C dX4_line_1 (by decide) ?_
  refine v_put C inG4 rfl tyX4 tyX4_ok nmX4 0 (by decide) (tg3 195 rfl rfl) rfl rfl (ty := .int) rfl rfl rfl cx_M (Nat.le_of_ble_eq_true rfl) rfl (by omega) cx_M dX4_line_2 ?_
  refine v_aload_n C dX4_line_5 rfl rfl ?_
  refine v_iload_n C dX4_line_6 rfl rfl ?_
  refine v_callVi (n := 1) (as := [.int p]) C (c_isPoster _ Z np p (wr g 0 0 0) hnp hp6) (gv (tg4 87 rfl rfl) (tg4 89 rfl rfl) (tg0 22 rfl rfl) (tg1 6 rfl rfl) (tg4 90 rfl rfl)) (by decide +kernel) ⟨Nat.le_of_ble_eq_true rfl, Nat.le_of_ble_eq_true rfl⟩ rfl cx_M rfl rfl (Nat.le_of_ble_eq_true rfl) dX4_line_7 ⟨Nat.le_of_ble_eq_true rfl, Nat.le_of_ble_eq_true rfl⟩ (fun r7 g7 hp7 => ?_)
  obtain ⟨rfl, hg7⟩ := hp7
  rw [hg7]
  refine v_if_ne (tgt := 19) C dX4_line_10 (by decide) (fun h10 => ?_) (fun h10 => ?_)
  · have k10 := bI_1.mp h10
    refine v_iload_n C dX4_line_19 rfl rfl ?_
    refine v_iconst (v := 0) C dX4_line_20 (by decide) ?_
    refine v_ldc (v := 99999999) C (tg4 91 rfl rfl) dX4_line_21 ?_
    refine v_callSi (n := 3) (as := [.int v, .int 0, .int 99999999]) C (c_isIn _ Z v 0 99999999 (wr g 0 0 0)) (gs (tg4 45 rfl rfl) (tg4 46 rfl rfl) (tg1 6 rfl rfl) (tg4 47 rfl rfl)) (by decide +kernel) ⟨Nat.le_of_ble_eq_true rfl, Nat.le_of_ble_eq_true rfl⟩ rfl rfl (Nat.le_of_ble_eq_true rfl) dX4_line_23 ⟨Nat.le_of_ble_eq_true rfl, Nat.le_of_ble_eq_true rfl⟩ (fun r23 g23 hp23 => ?_)
    obtain ⟨rfl, hg23⟩ := hp23
    rw [hg23]
    refine v_if_ne (tgt := 35) C dX4_line_26 (by decide) (fun h26 => ?_) (fun h26 => ?_)
    · have k26 := bI_1.mp h26
      obtain ⟨a, ha, rfl⟩ := isN_ex k10
      have ea : iz (nI a) = a := iz_nI (by omega)
      obtain ⟨nl, hl4, hnl⟩ := hnl a (by omega)
      have enl : nlO g a = nl := by unfold nlO; rw [hnl]; exact iz_nI (by omega)
      refine v_aload_n C dX4_line_35 rfl rfl ?_
      refine v_get C inG4 rfl 15 (by decide) (tg3 210 rfl rfl) rfl cx_M rfl dX4_line_36 ?_
      refine v_iload_n C dX4_line_39 rfl rfl ?_
      refine v_ialdN (a := a) C cxA15 ⟨by omega, by decide⟩ dX4_line_40 ?_
      refine v_topi (y := g 15 a) (show _ = g 15 a from rfl) ?_
      refine v_iconst (v := 1) C dX4_line_41 (by decide) ?_
      refine v_icmp_eq (tgt := 55) C dX4_line_42 (by decide) (fun h42 => ?_) (fun h42 => ?_)
      · refine v_aload_n C dX4_line_55 rfl rfl ?_
        refine v_iconst (v := 3) C dX4_line_56 (by decide) ?_
        refine v_callVi (n := 1) (as := [.int 3]) C (c_no _ Z 3 (wr g 0 0 0)) (gv (tg4 48 rfl rfl) (tg4 50 rfl rfl) (tg0 20 rfl rfl) (tg1 6 rfl rfl) (tg4 51 rfl rfl)) (by decide +kernel) ⟨Nat.le_of_ble_eq_true rfl, Nat.le_of_ble_eq_true rfl⟩ rfl cx_M rfl rfl (Nat.le_of_ble_eq_true rfl) dX4_line_57 ⟨Nat.le_of_ble_eq_true rfl, Nat.le_of_ble_eq_true rfl⟩ (fun r57 g57 hp57 => ?_)
        obtain ⟨rfl, hg57⟩ := hp57
        rw [hg57]
        exact ret _ _ _ _ dX4_line_60 (PM.no (k := 3) (by unfold cdLine; rw [enp, if_neg (by rw [k10]; decide), if_neg (by rw [k26]; decide), ea, if_pos (Or.inl h42)]) (by decide) (by unfold stLine; rw [if_neg (by rw [show cdLine g (nI a) v = 3 by unfold cdLine; rw [enp, if_neg (by rw [k10]; decide), if_neg (by rw [k26]; decide), ea, if_pos (Or.inl h42)]]; decide)]) (fun j h1 h2 => wr_ne _ _ _ _ (Or.inr (by omega))) (fun q h1 h2 => wr_row _ _ _ _ (by omega)) (fun q hq => wr_row _ _ _ _ (by omega)))
      · refine v_aload_n C dX4_line_45 rfl rfl ?_
        refine v_get C inG4 rfl 14 (by decide) (tg3 209 rfl rfl) rfl cx_M rfl dX4_line_46 ?_
        refine v_iload_n C dX4_line_49 rfl rfl ?_
        refine v_ialdN (a := a) C cxA14 ⟨by omega, by decide⟩ dX4_line_50 ?_
        refine v_topi (y := nI nl) (show _ = nI nl from hnl) ?_
        refine v_iconst (v := 4) C dX4_line_51 (by decide) ?_
        refine v_icmp_ne (tgt := 61) C dX4_line_52 (by decide) (fun h52 => ?_) (fun h52 => ?_)
        · have h52x : ¬ nl = 4 := fun q => h52 (by rw [q]; rfl)
          have hcd : cdLine g (nI a) v = 0 := by unfold cdLine; rw [enp, if_neg (by rw [k10]; decide), if_neg (by rw [k26]; decide), ea, enl, if_neg (by rintro (q | q); (· exact h42 q); (· exact h52x q))]
          refine v_aload_n C dX4_line_61 rfl rfl ?_
          refine v_get C inG4 rfl 17 (by decide) (tg3 212 rfl rfl) rfl cx_M rfl dX4_line_62 ?_
          refine v_iconst (v := 4) C dX4_line_65 (by decide) ?_
          refine v_iload_n C dX4_line_66 rfl rfl ?_
          refine v_imul C dX4_line_67 ?_
          refine v_topi (y := nI (4 * a)) (by rw [show (4 : Int32) = nI 4 from rfl, nI_mul]) ?_
          refine v_aload_n C dX4_line_68 rfl rfl ?_
          refine v_get C inG4 rfl 14 (by decide) (tg3 209 rfl rfl) rfl cx_M rfl dX4_line_69 ?_
          refine v_iload_n C dX4_line_72 rfl rfl ?_
          refine v_ialdN (a := a) C cxA14 ⟨by omega, by decide⟩ dX4_line_73 ?_
          refine v_topi (y := nI nl) (show _ = nI nl from hnl) ?_
          refine v_iadd C dX4_line_74 ?_
          refine v_topi (y := nI (4 * a + nl)) (nI_add _ _) ?_
          refine v_iload_n C dX4_line_75 rfl rfl ?_
          refine v_iastN (a := (4 * a + nl)) C (fun _ _ => cxA17) rfl (by omega) (by omega) dX4_line_76 ?_
          refine v_aload_n C dX4_line_77 rfl rfl ?_
          refine v_get C inG4 rfl 14 (by decide) (tg3 209 rfl rfl) rfl cx_M rfl dX4_line_78 ?_
          refine v_iload_n C dX4_line_81 rfl rfl ?_
          refine v_dup2 C dX4_line_82 rfl rfl ?_
          refine v_ialdN (a := a) C cxA14 ⟨by omega, by decide⟩ dX4_line_83 ?_
          refine v_topi (y := nI nl) (by rw [wr_row _ _ _ _ (by decide)]; exact hnl) ?_
          refine v_iconst (v := 1) C dX4_line_84 (by decide) ?_
          refine v_iadd C dX4_line_85 ?_
          refine v_topi (y := nI (nl + 1)) (nI_1 nl) ?_
          refine v_iastN (a := a) C (fun _ _ => cxA14) rfl (by omega) ⟨by omega, by decide⟩ dX4_line_86 ?_
          refine v_aload_n C dX4_line_87 rfl rfl ?_
          refine v_get C inG4 rfl 14 (by decide) (tg3 209 rfl rfl) rfl cx_M rfl dX4_line_88 ?_
          refine v_iload_n C dX4_line_91 rfl rfl ?_
          refine v_ialdN (a := a) C cxA14 ⟨by omega, by decide⟩ dX4_line_92 ?_
          refine v_topi (y := nI (nl + 1)) (wr_same _ _ _ _) ?_
          refine v_iconst (v := 1) C dX4_line_93 (by decide) ?_
          refine v_isub C dX4_line_94 ?_
          refine v_topi (y := nI nl) (nI_pred nl) ?_
          exact ret _ _ _ _ dX4_line_95 ⟨by rw [hcd]; rfl, fun _ => by rw [ea, enl], by unfold stLine; rw [if_pos hcd, ea, enl]; exact RE.of (fun j h1 h2 => by simp only [wr, rwr]; repeat' (first | rfl | (exfalso; omega) | split)) (fun q h1 h2 => by funext b; simp only [wr, rwr]; repeat' (first | rfl | (exfalso; omega) | split)), fun q hq => by funext b; simp only [wr, rwr]; repeat' (first | rfl | (exfalso; omega) | split)⟩
        · have h52x : nl = 4 := nI_inj (by omega) (by decide) h52
          refine v_aload_n C dX4_line_55 rfl rfl ?_
          refine v_iconst (v := 3) C dX4_line_56 (by decide) ?_
          refine v_callVi (n := 1) (as := [.int 3]) C (c_no _ Z 3 (wr g 0 0 0)) (gv (tg4 48 rfl rfl) (tg4 50 rfl rfl) (tg0 20 rfl rfl) (tg1 6 rfl rfl) (tg4 51 rfl rfl)) (by decide +kernel) ⟨Nat.le_of_ble_eq_true rfl, Nat.le_of_ble_eq_true rfl⟩ rfl cx_M rfl rfl (Nat.le_of_ble_eq_true rfl) dX4_line_57 ⟨Nat.le_of_ble_eq_true rfl, Nat.le_of_ble_eq_true rfl⟩ (fun r57 g57 hp57 => ?_)
          obtain ⟨rfl, hg57⟩ := hp57
          rw [hg57]
          exact ret _ _ _ _ dX4_line_60 (PM.no (k := 3) (by unfold cdLine; rw [enp, if_neg (by rw [k10]; decide), if_neg (by rw [k26]; decide), ea, if_pos (Or.inr (by rw [enl]; exact h52x))]) (by decide) (by unfold stLine; rw [if_neg (by rw [show cdLine g (nI a) v = 3 by unfold cdLine; rw [enp, if_neg (by rw [k10]; decide), if_neg (by rw [k26]; decide), ea, if_pos (Or.inr (by rw [enl]; exact h52x))]]; decide)]) (fun j h1 h2 => wr_ne _ _ _ _ (Or.inr (by omega))) (fun q h1 h2 => wr_row _ _ _ _ (by omega)) (fun q hq => wr_row _ _ _ _ (by omega)))
    · have k26 := bI_0.mp h26
      refine v_aload_n C dX4_line_29 rfl rfl ?_
      refine v_iconst (v := 2) C dX4_line_30 (by decide) ?_
      refine v_callVi (n := 1) (as := [.int 2]) C (c_no _ Z 2 (wr g 0 0 0)) (gv (tg4 48 rfl rfl) (tg4 50 rfl rfl) (tg0 20 rfl rfl) (tg1 6 rfl rfl) (tg4 51 rfl rfl)) (by decide +kernel) ⟨Nat.le_of_ble_eq_true rfl, Nat.le_of_ble_eq_true rfl⟩ rfl cx_M rfl rfl (Nat.le_of_ble_eq_true rfl) dX4_line_31 ⟨Nat.le_of_ble_eq_true rfl, Nat.le_of_ble_eq_true rfl⟩ (fun r31 g31 hp31 => ?_)
      obtain ⟨rfl, hg31⟩ := hp31
      rw [hg31]
      exact ret _ _ _ _ dX4_line_34 (PM.no (k := 2) (by unfold cdLine; rw [enp, if_neg (by rw [k10]; decide), if_pos k26]) (by decide) (by unfold stLine; rw [if_neg (by rw [show cdLine g p v = 2 by unfold cdLine; rw [enp, if_neg (by rw [k10]; decide), if_pos k26]]; decide)]) (fun j h1 h2 => wr_ne _ _ _ _ (Or.inr (by omega))) (fun q h1 h2 => wr_row _ _ _ _ (by omega)) (fun q hq => wr_row _ _ _ _ (by omega)))
  · have k10 := bI_0.mp h10
    refine v_aload_n C dX4_line_13 rfl rfl ?_
    refine v_iconst (v := 1) C dX4_line_14 (by decide) ?_
    refine v_callVi (n := 1) (as := [.int 1]) C (c_no _ Z 1 (wr g 0 0 0)) (gv (tg4 48 rfl rfl) (tg4 50 rfl rfl) (tg0 20 rfl rfl) (tg1 6 rfl rfl) (tg4 51 rfl rfl)) (by decide +kernel) ⟨Nat.le_of_ble_eq_true rfl, Nat.le_of_ble_eq_true rfl⟩ rfl cx_M rfl rfl (Nat.le_of_ble_eq_true rfl) dX4_line_15 ⟨Nat.le_of_ble_eq_true rfl, Nat.le_of_ble_eq_true rfl⟩ (fun r15 g15 hp15 => ?_)
    obtain ⟨rfl, hg15⟩ := hp15
    rw [hg15]
    exact ret _ _ _ _ dX4_line_18 (PM.no (k := 1) (by unfold cdLine; rw [enp, if_pos k10]) (by decide) (by unfold stLine; rw [if_neg (by rw [show cdLine g p v = 1 by unfold cdLine; rw [enp, if_pos k10]]; decide)]) (fun j h1 h2 => wr_ne _ _ _ _ (Or.inr (by omega))) (fun q h1 h2 => wr_row _ _ _ _ (by omega)) (fun q hq => wr_row _ _ _ _ (by omega)))
set_option maxRecDepth 100000 in
theorem c_buy (l : Launch) (Z : Zc) (f k v : Int32) (g : MG) (hI : IvM g) : MI l yX4_buy cX4_buy 5 (some .int) (rmz 2 43 0 0) Z [.ref (Z.ad 0), .int f, .int k, .int v] g (PM g (cdBuy g f k v) (g 6 (atO f k) + v) (stBuy g f k v)) := by
  refine ent_i (own := RX4) (lo := [some (.ref (Z.ad 0)), some (.int f), some (.int k), some (.int v), none]) (by decide) rfl (by simp [lg_sl, Value.category]) rfl (fun P hl C ret => ?_)
  obtain ⟨⟨nf, hf5, hnf⟩, ⟨np, hp6, hnp⟩, hot, hnl, htn, his, hwd, htk⟩ := id hI
  have enf : nfO g = nf := by unfold nfO; rw [hnf]; exact iz_nI (by omega)
  have enp : npO g = np := by unfold npO; rw [hnp]; exact iz_nI (by omega)
  refine v_aload_n C dX4_buy_0 rfl rfl ?_
  refine v_iconst (v := 0) C dX4_buy_1 (by decide) ?_
  refine v_put C inG4 rfl tyX4 tyX4_ok nmX4 0 (by decide) (tg3 195 rfl rfl) rfl rfl (ty := .int) rfl rfl rfl cx_M (Nat.le_of_ble_eq_true rfl) rfl (by omega) cx_M dX4_buy_2 ?_
  refine v_aload_n C dX4_buy_5 rfl rfl ?_
  refine v_iload_n C dX4_buy_6 rfl rfl ?_
  refine v_callVi (n := 1) (as := [.int f]) C (c_isFount _ Z nf f (wr g 0 0 0) hnf hf5) (gv (tg4 56 rfl rfl) (tg4 58 rfl rfl) (tg0 21 rfl rfl) (tg1 6 rfl rfl) (tg4 59 rfl rfl)) (by decide +kernel) ⟨Nat.le_of_ble_eq_true rfl, Nat.le_of_ble_eq_true rfl⟩ rfl cx_M rfl rfl (Nat.le_of_ble_eq_true rfl) dX4_buy_7 ⟨Nat.le_of_ble_eq_true rfl, Nat.le_of_ble_eq_true rfl⟩ (fun r7 g7 hp7 => ?_)
  obtain ⟨rfl, hg7⟩ := hp7
  rw [hg7]
  refine v_if_eq (tgt := 20) C dX4_buy_10 (by decide) (fun h10 => ?_) (fun h10 => ?_)
  · have k10 := bI_0.mp h10
    refine v_aload_n C dX4_buy_20 rfl rfl ?_
    refine v_iconst (v := 1) C dX4_buy_21 (by decide) ?_
    refine v_callVi (n := 1) (as := [.int 1]) C (c_no _ Z 1 (wr g 0 0 0)) (gv (tg4 48 rfl rfl) (tg4 50 rfl rfl) (tg0 20 rfl rfl) (tg1 6 rfl rfl) (tg4 51 rfl rfl)) (by decide +kernel) ⟨Nat.le_of_ble_eq_true rfl, Nat.le_of_ble_eq_true rfl⟩ rfl cx_M rfl rfl (Nat.le_of_ble_eq_true rfl) dX4_buy_22 ⟨Nat.le_of_ble_eq_true rfl, Nat.le_of_ble_eq_true rfl⟩ (fun r22 g22 hp22 => ?_)
    obtain ⟨rfl, hg22⟩ := hp22
    rw [hg22]
    exact ret _ _ _ _ dX4_buy_25 (PM.no (k := 1) (by unfold cdBuy isFL; rw [enf, k10]; rfl) (by decide) (by unfold stBuy; rw [if_neg (by rw [show cdBuy g f k v = 1 by unfold cdBuy isFL; rw [enf, k10]; rfl]; decide)]) (fun j h1 h2 => wr_ne _ _ _ _ (Or.inr (by omega))) (fun q h1 h2 => wr_row _ _ _ _ (by omega)) (fun q hq => wr_row _ _ _ _ (by omega)))
  · have k10 := bI_1.mp h10
    refine v_iload_n C dX4_buy_13 rfl rfl ?_
    refine v_callSi (n := 1) (as := [.int k]) C (c_isLetter _ Z k (wr g 0 0 0)) (gs (tg4 60 rfl rfl) (tg4 61 rfl rfl) (tg1 6 rfl rfl) (tg4 62 rfl rfl)) (by decide +kernel) ⟨Nat.le_of_ble_eq_true rfl, Nat.le_of_ble_eq_true rfl⟩ rfl rfl (Nat.le_of_ble_eq_true rfl) dX4_buy_14 ⟨Nat.le_of_ble_eq_true rfl, Nat.le_of_ble_eq_true rfl⟩ (fun r14 g14 hp14 => ?_)
    obtain ⟨rfl, hg14⟩ := hp14
    rw [hg14]
    refine v_if_ne (tgt := 26) C dX4_buy_17 (by decide) (fun h17 => ?_) (fun h17 => ?_)
    · have k17 := bI_1.mp h17
      refine v_iload_n C dX4_buy_26 rfl rfl ?_
      refine v_iconst (v := 1) C dX4_buy_27 (by decide) ?_
      refine v_bipush (v := 9) C dX4_buy_28 (by decide) ?_
      refine v_callSi (n := 3) (as := [.int v, .int 1, .int 9]) C (c_isIn _ Z v 1 9 (wr g 0 0 0)) (gs (tg4 45 rfl rfl) (tg4 46 rfl rfl) (tg1 6 rfl rfl) (tg4 47 rfl rfl)) (by decide +kernel) ⟨Nat.le_of_ble_eq_true rfl, Nat.le_of_ble_eq_true rfl⟩ rfl rfl (Nat.le_of_ble_eq_true rfl) dX4_buy_30 ⟨Nat.le_of_ble_eq_true rfl, Nat.le_of_ble_eq_true rfl⟩ (fun r30 g30 hp30 => ?_)
      obtain ⟨rfl, hg30⟩ := hp30
      rw [hg30]
      refine v_if_ne (tgt := 42) C dX4_buy_33 (by decide) (fun h33 => ?_) (fun h33 => ?_)
      · have k33 := bI_1.mp h33
        obtain ⟨a, ha, rfl⟩ := isN_ex k10
        obtain ⟨c, hc, rfl⟩ := isN_ex k17
        have eat : atO (nI a) (nI c) = 10 * a + c := atO_nI (by omega) hc
        refine v_bipush (v := 10) C dX4_buy_42 (by decide) ?_
        refine v_iload_n C dX4_buy_44 rfl rfl ?_
        refine v_imul C dX4_buy_45 ?_
        refine v_iload_n C dX4_buy_46 rfl rfl ?_
        refine v_iadd C dX4_buy_47 ?_
        refine v_topi (y := nI (10 * a + c)) (nI_10 a c) ?_
        refine v_istore (lo' := [some (.ref (Z.ad 0)), some (.int (nI a)), some (.int (nI c)), some (.int v), some (.int (nI (10 * a + c)))]) C dX4_buy_48 (Nat.le_of_ble_eq_true rfl) rfl rfl ?_
        refine v_aload_n C dX4_buy_50 rfl rfl ?_
        refine v_get C inG4 rfl 6 (by decide) (tg3 201 rfl rfl) rfl cx_M rfl dX4_buy_51 ?_
        refine v_iload C dX4_buy_54 rfl ?_
        refine v_ialdN (a := (10 * a + c)) C cxA6 (by omega) dX4_buy_56 ?_
        refine v_iload_n C dX4_buy_57 rfl rfl ?_
        refine v_iadd C dX4_buy_58 ?_
        refine v_topi (y := g 6 (10 * a + c) + v) rfl ?_
        refine v_bipush (v := 9) C dX4_buy_59 (by decide) ?_
        refine v_icmp_le (tgt := 70) C dX4_buy_61 (by decide) (fun h61 => ?_) (fun h61 => ?_)
        · have hcd : cdBuy g (nI a) (nI c) v = 0 := by unfold cdBuy; rw [if_neg (by unfold isFL; rw [enf, k10, k17]; decide), if_neg (by rw [k33]; decide), eat, if_neg (Int32.not_lt.mpr h61)]
          refine v_aload_n C dX4_buy_70 rfl rfl ?_
          refine v_get C inG4 rfl 6 (by decide) (tg3 201 rfl rfl) rfl cx_M rfl dX4_buy_71 ?_
          refine v_iload C dX4_buy_74 rfl ?_
          refine v_dup2 C dX4_buy_76 rfl rfl ?_
          refine v_ialdN (a := (10 * a + c)) C cxA6 (by omega) dX4_buy_77 ?_
          refine v_iload_n C dX4_buy_78 rfl rfl ?_
          refine v_iadd C dX4_buy_79 ?_
          refine v_iastN (a := (10 * a + c)) C (fun _ _ => cxA6) rfl (by omega) (by omega) dX4_buy_80 ?_
          refine v_aload_n C dX4_buy_81 rfl rfl ?_
          refine v_get C inG4 rfl 6 (by decide) (tg3 201 rfl rfl) rfl cx_M rfl dX4_buy_82 ?_
          refine v_iload C dX4_buy_85 rfl ?_
          refine v_ialdN (a := (10 * a + c)) C cxA6 (by omega) dX4_buy_87 ?_
          exact ret _ _ _ _ dX4_buy_88 ⟨by rw [hcd]; rfl, fun _ => by rw [eat, wr_same]; rfl, by unfold stBuy; rw [if_pos hcd, eat]; exact RE.of (fun j h1 h2 => by simp only [wr, rwr]; repeat' (first | rfl | (exfalso; omega) | split)) (fun q h1 h2 => by funext b; simp only [wr, rwr]; repeat' (first | rfl | (exfalso; omega) | split)), fun q hq => by funext b; simp only [wr, rwr]; repeat' (first | rfl | (exfalso; omega) | split)⟩
        · refine v_aload_n C dX4_buy_64 rfl rfl ?_
          refine v_iconst (v := 3) C dX4_buy_65 (by decide) ?_
          refine v_callVi (n := 1) (as := [.int 3]) C (c_no _ Z 3 (wr g 0 0 0)) (gv (tg4 48 rfl rfl) (tg4 50 rfl rfl) (tg0 20 rfl rfl) (tg1 6 rfl rfl) (tg4 51 rfl rfl)) (by decide +kernel) ⟨Nat.le_of_ble_eq_true rfl, Nat.le_of_ble_eq_true rfl⟩ rfl cx_M rfl rfl (Nat.le_of_ble_eq_true rfl) dX4_buy_66 ⟨Nat.le_of_ble_eq_true rfl, Nat.le_of_ble_eq_true rfl⟩ (fun r66 g66 hp66 => ?_)
          obtain ⟨rfl, hg66⟩ := hp66
          rw [hg66]
          exact ret _ _ _ _ dX4_buy_69 (PM.no (k := 3) (by unfold cdBuy; rw [if_neg (by unfold isFL; rw [enf, k10, k17]; decide), if_neg (by rw [k33]; decide), eat, if_pos (Int32.not_le.mp h61)]) (by decide) (by unfold stBuy; rw [if_neg (by rw [show cdBuy g (nI a) (nI c) v = 3 by unfold cdBuy; rw [if_neg (by unfold isFL; rw [enf, k10, k17]; decide), if_neg (by rw [k33]; decide), eat, if_pos (Int32.not_le.mp h61)]]; decide)]) (fun j h1 h2 => wr_ne _ _ _ _ (Or.inr (by omega))) (fun q h1 h2 => wr_row _ _ _ _ (by omega)) (fun q hq => wr_row _ _ _ _ (by omega)))
      · have k33 := bI_0.mp h33
        refine v_aload_n C dX4_buy_36 rfl rfl ?_
        refine v_iconst (v := 2) C dX4_buy_37 (by decide) ?_
        refine v_callVi (n := 1) (as := [.int 2]) C (c_no _ Z 2 (wr g 0 0 0)) (gv (tg4 48 rfl rfl) (tg4 50 rfl rfl) (tg0 20 rfl rfl) (tg1 6 rfl rfl) (tg4 51 rfl rfl)) (by decide +kernel) ⟨Nat.le_of_ble_eq_true rfl, Nat.le_of_ble_eq_true rfl⟩ rfl cx_M rfl rfl (Nat.le_of_ble_eq_true rfl) dX4_buy_38 ⟨Nat.le_of_ble_eq_true rfl, Nat.le_of_ble_eq_true rfl⟩ (fun r38 g38 hp38 => ?_)
        obtain ⟨rfl, hg38⟩ := hp38
        rw [hg38]
        exact ret _ _ _ _ dX4_buy_41 (PM.no (k := 2) (by unfold cdBuy isFL; rw [enf, k10, k17, if_neg (by decide), if_pos k33]) (by decide) (by unfold stBuy; rw [if_neg (by rw [show cdBuy g f k v = 2 by unfold cdBuy isFL; rw [enf, k10, k17, if_neg (by decide), if_pos k33]]; decide)]) (fun j h1 h2 => wr_ne _ _ _ _ (Or.inr (by omega))) (fun q h1 h2 => wr_row _ _ _ _ (by omega)) (fun q hq => wr_row _ _ _ _ (by omega)))
    · have k17 := bI_0.mp h17
      refine v_aload_n C dX4_buy_20 rfl rfl ?_
      refine v_iconst (v := 1) C dX4_buy_21 (by decide) ?_
      refine v_callVi (n := 1) (as := [.int 1]) C (c_no _ Z 1 (wr g 0 0 0)) (gv (tg4 48 rfl rfl) (tg4 50 rfl rfl) (tg0 20 rfl rfl) (tg1 6 rfl rfl) (tg4 51 rfl rfl)) (by decide +kernel) ⟨Nat.le_of_ble_eq_true rfl, Nat.le_of_ble_eq_true rfl⟩ rfl cx_M rfl rfl (Nat.le_of_ble_eq_true rfl) dX4_buy_22 ⟨Nat.le_of_ble_eq_true rfl, Nat.le_of_ble_eq_true rfl⟩ (fun r22 g22 hp22 => ?_)
      obtain ⟨rfl, hg22⟩ := hp22
      rw [hg22]
      exact ret _ _ _ _ dX4_buy_25 (PM.no (k := 1) (by unfold cdBuy isFL; rw [enf, k10, k17]; rfl) (by decide) (by unfold stBuy; rw [if_neg (by rw [show cdBuy g f k v = 1 by unfold cdBuy isFL; rw [enf, k10, k17]; rfl]; decide)]) (fun j h1 h2 => wr_ne _ _ _ _ (Or.inr (by omega))) (fun q h1 h2 => wr_row _ _ _ _ (by omega)) (fun q hq => wr_row _ _ _ _ (by omega)))
set_option maxRecDepth 100000 in
theorem c_buyAll (l : Launch) (Z : Zc) (f v : Int32) (g : MG) (hI : IvM g) : MI l yX4_buyAll cX4_buyAll 6 (some .int) (rmz 2 43 0 0) Z [.ref (Z.ad 0), .int f, .int v] g (PM g (cdBuyAll g f v) (anBuyAll g f v) (stBuyAll g f v)) := by
  refine ent_i (own := RX4) (lo := [some (.ref (Z.ad 0)), some (.int f), some (.int v), none, none, none]) (by decide) rfl (by simp [lg_sl, Value.category]) rfl (fun P hl C ret => ?_)
  obtain ⟨⟨nf, hf5, hnf⟩, ⟨np, hp6, hnp⟩, hot, hnl, htn, his, hwd, htk⟩ := id hI
  have enf : nfO g = nf := by unfold nfO; rw [hnf]; exact iz_nI (by omega)
  have enp : npO g = np := by unfold npO; rw [hnp]; exact iz_nI (by omega)
  refine v_aload_n C dX4_buyAll_0 rfl rfl ?_
  refine v_iconst (v := 0) C dX4_buyAll_1 (by decide) ?_
  refine v_put C inG4 rfl tyX4 tyX4_ok nmX4 0 (by decide) (tg3 195 rfl rfl) rfl rfl (ty := .int) rfl rfl rfl cx_M (Nat.le_of_ble_eq_true rfl) rfl (by omega) cx_M dX4_buyAll_2 ?_
  refine v_aload_n C dX4_buyAll_5 rfl rfl ?_
  refine v_iload_n C dX4_buyAll_6 rfl rfl ?_
  refine v_callVi (n := 1) (as := [.int f]) C (c_isFount _ Z nf f (wr g 0 0 0) hnf hf5) (gv (tg4 56 rfl rfl) (tg4 58 rfl rfl) (tg0 21 rfl rfl) (tg1 6 rfl rfl) (tg4 59 rfl rfl)) (by decide +kernel) ⟨Nat.le_of_ble_eq_true rfl, Nat.le_of_ble_eq_true rfl⟩ rfl cx_M rfl rfl (Nat.le_of_ble_eq_true rfl) dX4_buyAll_7 ⟨Nat.le_of_ble_eq_true rfl, Nat.le_of_ble_eq_true rfl⟩ (fun r7 g7 hp7 => ?_)
  obtain ⟨rfl, hg7⟩ := hp7
  rw [hg7]
  refine v_if_ne (tgt := 19) C dX4_buyAll_10 (by decide) (fun h10 => ?_) (fun h10 => ?_)
  · have k10 := bI_1.mp h10
    refine v_iload_n C dX4_buyAll_19 rfl rfl ?_
    refine v_iconst (v := 1) C dX4_buyAll_20 (by decide) ?_
    refine v_bipush (v := 9) C dX4_buyAll_21 (by decide) ?_
    refine v_callSi (n := 3) (as := [.int v, .int 1, .int 9]) C (c_isIn _ Z v 1 9 (wr g 0 0 0)) (gs (tg4 45 rfl rfl) (tg4 46 rfl rfl) (tg1 6 rfl rfl) (tg4 47 rfl rfl)) (by decide +kernel) ⟨Nat.le_of_ble_eq_true rfl, Nat.le_of_ble_eq_true rfl⟩ rfl rfl (Nat.le_of_ble_eq_true rfl) dX4_buyAll_23 ⟨Nat.le_of_ble_eq_true rfl, Nat.le_of_ble_eq_true rfl⟩ (fun r23 g23 hp23 => ?_)
    obtain ⟨rfl, hg23⟩ := hp23
    rw [hg23]
    refine v_if_ne (tgt := 35) C dX4_buyAll_26 (by decide) (fun h26 => ?_) (fun h26 => ?_)
    · have k26 := bI_1.mp h26
      obtain ⟨a, ha, rfl⟩ := isN_ex k10
      have ea : iz (nI a) = a := iz_nI (by omega)
      have hcd : cdBuyAll g (nI a) v = 0 := by unfold cdBuyAll; rw [enf, if_neg (by rw [k10]; decide), if_neg (by rw [k26]; decide)]
      have loop : ∀ (n q : Nat) (g1 : MG) (w : Option Value), 10 - q < n → q ≤ 10 → g1 0 0 = 0 → (∀ j, 1 ≤ j → j ≤ 4 → g1 0 j = g 0 j) → (∀ k, k ≠ 6 → k ≠ 0 → g1 k = g k) → (∀ j, g1 6 j = if 10 * a ≤ j ∧ j < 10 * a + q then g 6 j + moB g v j else g 6 j) → V P (rmz 2 43 0 0) Z [some (.ref (Z.ad 0)), some (.int (nI a)), some (.int v), some (.int (sumI (fun k => moB g v (10 * a + k)) q)), some (.int (nI (10 * a + q))), w] 43 [] g1 0 0 := by
        intro n
        induction n with
        | zero => intro q g1 w hn; exact absurd hn (Nat.not_lt_zero _)
        | succ n ih =>
          intro q g1 w hn hq h00 h0j hr h6
          refine v_iload C dX4_buyAll_43 rfl ?_
          refine v_bipush (v := 10) C dX4_buyAll_45 (by decide) ?_
          refine v_iload_n C dX4_buyAll_47 rfl rfl ?_
          refine v_iconst (v := 1) C dX4_buyAll_48 (by decide) ?_
          refine v_iadd C dX4_buyAll_49 ?_
          refine v_topi (y := nI (a + 1)) (nI_1 a) ?_
          refine v_imul C dX4_buyAll_50 ?_
          refine v_topi (y := nI (10 * (a + 1))) (by rw [show (10 : Int32) = nI 10 from rfl, nI_mul]) ?_
          refine v_icmp_ge (tgt := 93) C dX4_buyAll_51 (by decide) (fun h51 => ?_) (fun h51 => ?_)
          · have hq10 : q = 10 := by have := (nI_leI (by omega) (by omega)).mp h51; omega
            subst hq10
            refine v_iload_n C dX4_buyAll_93 rfl rfl ?_
            exact ret _ _ _ _ dX4_buyAll_94 ⟨by rw [hcd]; exact h00, fun _ => by unfold anBuyAll; rw [ea], by unfold stBuyAll; rw [if_pos hcd, ea]; exact RE.of (fun j h1 h2 => by rw [rwr_ne _ _ _ (by decide)]; exact h0j j h1 h2) (fun k h1 h2 => by by_cases hk : k = 6; (· subst hk; rw [rwr_same]; exact funext h6); (· rw [rwr_ne _ _ _ hk]; exact hr k hk (by omega))), fun q hq => hr q (by omega) (by omega)⟩
          · have hq10 : q < 10 := Nat.lt_of_not_le fun z => h51 ((nI_leI (by omega) (by omega)).mpr (by omega))
            have e6 : g1 6 (10 * a + q) = g 6 (10 * a + q) := by rw [h6, if_neg (by omega)]
            refine v_iload_n C dX4_buyAll_54 rfl rfl ?_
            refine v_bipush (v := 9) C dX4_buyAll_55 (by decide) ?_
            refine v_aload_n C dX4_buyAll_57 rfl rfl ?_
            refine v_get C inG4 rfl 6 (by decide) (tg3 201 rfl rfl) rfl cx_M rfl dX4_buyAll_58 ?_
            refine v_iload C dX4_buyAll_61 rfl ?_
            refine v_ialdN (a := (10 * a + q)) C cxA6 (by omega) dX4_buyAll_63 ?_
            refine v_topi (y := g 6 (10 * a + q)) e6 ?_
            refine v_isub C dX4_buyAll_64 ?_
            refine v_mmin C (tg4 67 rfl rfl) (tg2 207 rfl rfl) (tg1 14 rfl rfl) (tg2 208 rfl rfl) (Nat.le_of_ble_eq_true rfl) (Nat.le_of_ble_eq_true rfl) (Nat.le_of_ble_eq_true rfl) (Nat.le_of_ble_eq_true rfl) dX4_buyAll_65 ?_
            refine v_topi (y := moB g v (10 * a + q)) rfl ?_
            refine v_istore (lo' := [some (.ref (Z.ad 0)), some (.int (nI a)), some (.int v), some (.int (sumI (fun k => moB g v (10 * a + k)) q)), some (.int (nI (10 * a + q))), some (.int (moB g v (10 * a + q)))]) C dX4_buyAll_68 (Nat.le_of_ble_eq_true rfl) rfl rfl ?_
            refine v_aload_n C dX4_buyAll_70 rfl rfl ?_
            refine v_get C inG4 rfl 6 (by decide) (tg3 201 rfl rfl) rfl cx_M rfl dX4_buyAll_71 ?_
            refine v_iload C dX4_buyAll_74 rfl ?_
            refine v_dup2 C dX4_buyAll_76 rfl rfl ?_
            refine v_ialdN (a := (10 * a + q)) C cxA6 (by omega) dX4_buyAll_77 ?_
            refine v_topi (y := g 6 (10 * a + q)) e6 ?_
            refine v_iload C dX4_buyAll_78 rfl ?_
            refine v_iadd C dX4_buyAll_80 ?_
            refine v_iastN (a := (10 * a + q)) C (fun _ _ => cxA6) rfl (by omega) (by omega) dX4_buyAll_81 ?_
            refine v_iload_n C dX4_buyAll_82 rfl rfl ?_
            refine v_iload C dX4_buyAll_83 rfl ?_
            refine v_iadd C dX4_buyAll_85 ?_
            refine v_topi (y := sumI (fun k => moB g v (10 * a + k)) (q + 1)) rfl ?_
            refine v_istore_n (lo' := [some (.ref (Z.ad 0)), some (.int (nI a)), some (.int v), some (.int (sumI (fun k => moB g v (10 * a + k)) (q + 1))), some (.int (nI (10 * a + q))), some (.int (moB g v (10 * a + q)))]) C dX4_buyAll_86 rfl (Nat.le_of_ble_eq_true rfl) rfl rfl ?_
            refine v_iinc (lo' := [some (.ref (Z.ad 0)), some (.int (nI a)), some (.int v), some (.int (sumI (fun k => moB g v (10 * a + k)) (q + 1))), some (.int ((nI (10 * a + q)) + 1)), some (.int (moB g v (10 * a + q)))]) C dX4_buyAll_87 rfl rfl rfl rfl ?_
            refine v_lo (lo' := [some (.ref (Z.ad 0)), some (.int (nI a)), some (.int v), some (.int (sumI (fun k => moB g v (10 * a + k)) (q + 1))), some (.int (nI (10 * a + (q + 1)))), some (.int (moB g v (10 * a + q)))]) (by rw [← Nat.add_assoc, ← nI_1 (10 * a + q)]) ?_
            refine v_goto (tgt := 43) C dX4_buyAll_90 (by decide) ?_
            exact ih (q + 1) _ _ (by omega) (by omega) (by rw [wr_row _ _ _ _ (by decide)]; exact h00) (fun j h1 h2 => by rw [wr_row _ _ _ _ (by decide)]; exact h0j j h1 h2) (fun k h1 h2 => by rw [wr_row _ _ _ _ h1]; exact hr k h1 h2) (fun j => by by_cases hj : j = 10 * a + q; (· rw [hj, wr_same, if_pos (by omega)]); (· rw [wr_ne _ _ _ _ (Or.inr hj), h6]; by_cases hc : 10 * a ≤ j ∧ j < 10 * a + q; (· rw [if_pos hc, if_pos (by omega)]); (· rw [if_neg hc, if_neg (by omega)])))
      refine v_iconst (v := 0) C dX4_buyAll_35 (by decide) ?_
      refine v_topi (y := sumI (fun k => moB g v (10 * a + k)) 0) rfl ?_
      refine v_istore_n (lo' := [some (.ref (Z.ad 0)), some (.int (nI a)), some (.int v), some (.int (sumI (fun k => moB g v (10 * a + k)) 0)), none, none]) C dX4_buyAll_36 rfl (Nat.le_of_ble_eq_true rfl) rfl rfl ?_
      refine v_bipush (v := 10) C dX4_buyAll_37 (by decide) ?_
      refine v_iload_n C dX4_buyAll_39 rfl rfl ?_
      refine v_imul C dX4_buyAll_40 ?_
      refine v_topi (y := nI (10 * a + 0)) (by rw [show (10 : Int32) = nI 10 from rfl, nI_mul]; rfl) ?_
      refine v_istore (lo' := [some (.ref (Z.ad 0)), some (.int (nI a)), some (.int v), some (.int (sumI (fun k => moB g v (10 * a + k)) 0)), some (.int (nI (10 * a + 0))), none]) C dX4_buyAll_41 (Nat.le_of_ble_eq_true rfl) rfl rfl ?_
      exact loop 11 0 _ _ (by omega) (by omega) (wr_same _ _ _ _) (fun j h1 h2 => wr_ne _ _ _ _ (Or.inr (by omega))) (fun k h1 h2 => wr_row _ _ _ _ h2) (fun j => by rw [if_neg (by omega)]; rfl)
    · have k26 := bI_0.mp h26
      refine v_aload_n C dX4_buyAll_29 rfl rfl ?_
      refine v_iconst (v := 2) C dX4_buyAll_30 (by decide) ?_
      refine v_callVi (n := 1) (as := [.int 2]) C (c_no _ Z 2 (wr g 0 0 0)) (gv (tg4 48 rfl rfl) (tg4 50 rfl rfl) (tg0 20 rfl rfl) (tg1 6 rfl rfl) (tg4 51 rfl rfl)) (by decide +kernel) ⟨Nat.le_of_ble_eq_true rfl, Nat.le_of_ble_eq_true rfl⟩ rfl cx_M rfl rfl (Nat.le_of_ble_eq_true rfl) dX4_buyAll_31 ⟨Nat.le_of_ble_eq_true rfl, Nat.le_of_ble_eq_true rfl⟩ (fun r31 g31 hp31 => ?_)
      obtain ⟨rfl, hg31⟩ := hp31
      rw [hg31]
      exact ret _ _ _ _ dX4_buyAll_34 (PM.no (k := 2) (by unfold cdBuyAll; rw [enf, if_neg (by rw [k10]; decide), if_pos k26]) (by decide) (by unfold stBuyAll; rw [if_neg (by rw [show cdBuyAll g f v = 2 by unfold cdBuyAll; rw [enf, if_neg (by rw [k10]; decide), if_pos k26]]; decide)]) (fun j h1 h2 => wr_ne _ _ _ _ (Or.inr (by omega))) (fun q h1 h2 => wr_row _ _ _ _ (by omega)) (fun q hq => wr_row _ _ _ _ (by omega)))
  · have k10 := bI_0.mp h10
    refine v_aload_n C dX4_buyAll_13 rfl rfl ?_
    refine v_iconst (v := 1) C dX4_buyAll_14 (by decide) ?_
    refine v_callVi (n := 1) (as := [.int 1]) C (c_no _ Z 1 (wr g 0 0 0)) (gv (tg4 48 rfl rfl) (tg4 50 rfl rfl) (tg0 20 rfl rfl) (tg1 6 rfl rfl) (tg4 51 rfl rfl)) (by decide +kernel) ⟨Nat.le_of_ble_eq_true rfl, Nat.le_of_ble_eq_true rfl⟩ rfl cx_M rfl rfl (Nat.le_of_ble_eq_true rfl) dX4_buyAll_15 ⟨Nat.le_of_ble_eq_true rfl, Nat.le_of_ble_eq_true rfl⟩ (fun r15 g15 hp15 => ?_)
    obtain ⟨rfl, hg15⟩ := hp15
    rw [hg15]
    exact ret _ _ _ _ dX4_buyAll_18 (PM.no (k := 1) (by unfold cdBuyAll; rw [enf, if_pos k10]) (by decide) (by unfold stBuyAll; rw [if_neg (by rw [show cdBuyAll g f v = 1 by unfold cdBuyAll; rw [enf, if_pos k10]]; decide)]) (fun j h1 h2 => wr_ne _ _ _ _ (Or.inr (by omega))) (fun q h1 h2 => wr_row _ _ _ _ (by omega)) (fun q hq => wr_row _ _ _ _ (by omega)))
end
section
/-! PLAIN FACTS of plans: what a line's try holds, and that two ways to tell what is left give one plan -/
theorem cntD_push (t c d : Nat) (hd : d < 10) : ∀ m, cntD (10 * t + d) c (m + 1) = cntD t c m + (if d = c then 1 else 0) := by
  intro m
  induction m with
  | zero =>
    show 0 + (if (10 * t + d) / 10 ^ 0 % 10 = c then 1 else 0) = 0 + (if d = c then 1 else 0)
    rw [Nat.pow_zero, Nat.div_one, show (10 * t + d) % 10 = d by omega]
  | succ m ih =>
    rw [cntD, ih, show cntD t c (m + 1) = cntD t c m + (if t / 10 ^ m % 10 = c then 1 else 0) from rfl]
    have e : (10 * t + d) / 10 ^ (m + 1) = t / 10 ^ m := by
      rw [Nat.pow_succ, Nat.mul_comm (10 ^ m) 10, ← Nat.div_div_eq_div_mul, show (10 * t + d) / 10 = t by omega]
    rw [e]
    omega
/-- a line's try after m letters: a word of m letters, its blocks counted, its flaws few -/
def TSI (m : Nat) (s : TS) : Prop := (∃ t, t < 10 ^ m ∧ s.2.2 = nI t ∧ ∀ l, l < 10 → s.1 l = nI (cntD t l m)) ∧ (∃ c, c ≤ m ∧ s.2.1 = nI c) ∧ ∀ l, ∃ x, x ≤ m ∧ s.1 l = nI x
theorem TSI_0 : TSI 0 ts0 := ⟨⟨0, by decide, rfl, fun _ _ => rfl⟩, ⟨0, Nat.le_refl 0, rfl⟩, fun _ => ⟨0, Nat.le_refl 0, rfl⟩⟩
theorem TSI_put {m : Nat} {s : TS} (h : TSI m s) {p : Nat} (hp : p < 10) {b : Int32} (hb : b = 0 ∨ b = 1) : TSI (m + 1) (upd s.1 p (s.1 p + 1), s.2.1 + b, 10 * s.2.2 + nI p) := by
  obtain ⟨⟨t, ht, hw, hc⟩, ⟨c, hcm, hf⟩, hx⟩ := h
  refine ⟨⟨10 * t + p, by rw [Nat.pow_succ]; omega, by show 10 * s.2.2 + nI p = _; rw [hw]; exact nI_10 t p, fun l hl => ?_⟩, ?_, fun l => ?_⟩
  · show upd s.1 p (s.1 p + 1) l = _
    rw [cntD_push t l p hp m]
    unfold upd
    by_cases hlp : l = p
    · rw [if_pos hlp, if_pos hlp.symm, ← hlp, hc l hl, nI_1]
    · rw [if_neg hlp, if_neg (Ne.symm hlp), hc l hl]; rfl
  · rcases hb with rfl | rfl
    · exact ⟨c, by omega, by show s.2.1 + 0 = _; rw [Int32.add_zero]; exact hf⟩
    · exact ⟨c + 1, by omega, by show s.2.1 + 1 = _; rw [hf, nI_1]⟩
  · show ∃ x, x ≤ m + 1 ∧ upd s.1 p (s.1 p + 1) l = nI x
    unfold upd
    by_cases hlp : l = p
    · obtain ⟨x, hxm, he⟩ := hx p
      exact ⟨x + 1, by omega, by rw [if_pos hlp, he, nI_1]⟩
    · obtain ⟨x, hxm, he⟩ := hx l
      exact ⟨x, by omega, by rw [if_neg hlp]; exact he⟩
theorem TSI_step {ok : Nat → Int32 → Bool} {ot : Nat → Int32} (hot : otI ot) {m d : Nat} {s s' : TS} (h : TSI m s) (hd : d < 10) (he : tl1 ok ot s d = some s') : TSI (m + 1) s' := by
  unfold tl1 at he
  split at he
  · cases he
    have := TSI_put h hd (b := 0) (Or.inl rfl)
    rw [Int32.add_zero] at this
    exact this
  · split at he
    · cases he
    · next hne =>
      obtain ⟨o, ho, -, hoe⟩ := (hot d hd).resolve_left hne
      split at he
      · cases he
        rw [hoe, iz_nI (by omega)]
        exact TSI_put h ho (Or.inr rfl)
      · cases he
theorem TSI_run {ok : Nat → Int32 → Bool} {ot : Nat → Int32} (hot : otI ot) (w : Nat) : ∀ (n m : Nat) (s s' : TS), TSI m s → tlR ok ot w n s = some s' → TSI (m + n) s' := by
  intro n
  induction n with
  | zero => intro m s s' h he; cases he; exact h
  | succ n ih =>
    intro m s s' h he
    unfold tlR at he
    cases hc : tl1 ok ot s (w / 10 ^ n % 10) with
    | none => rw [hc] at he; cases he
    | some s1 =>
      rw [hc] at he
      have := ih (m + 1) s1 s' (TSI_step hot h (Nat.mod_lt _ (by decide)) hc) he
      rw [show m + (n + 1) = m + 1 + n by omega]
      exact this
theorem tl1_cong {ok ok' : Nat → Int32 → Bool} {ot : Nat → Int32} (hot : otI ot) {m d : Nat} {s : TS} (h : TSI m s) (hm : m ≤ 10) (hd : d < 10) (hk : ∀ k x, k < 10 → x ≤ 10 → ok k (nI x) = ok' k (nI x)) : tl1 ok ot s d = tl1 ok' ot s d := by
  have e1 : ok d (s.1 d) = ok' d (s.1 d) := by
    obtain ⟨x, hx, he⟩ := h.2.2 d
    rw [he]; exact hk d x hd (by omega)
  unfold tl1
  rw [e1]
  by_cases hn : ot d = -1
  · simp [hn]
  · obtain ⟨o, ho, -, hoe⟩ := (hot d hd).resolve_left hn
    have e2 : ok (iz (ot d)) (s.1 (iz (ot d))) = ok' (iz (ot d)) (s.1 (iz (ot d))) := by
      rw [hoe, iz_nI (by omega)]
      obtain ⟨x, hx, he⟩ := h.2.2 o
      rw [he]; exact hk o x ho (by omega)
    rw [e2]
theorem tlR_cong {ok ok' : Nat → Int32 → Bool} {ot : Nat → Int32} (hot : otI ot) (hk : ∀ k x, k < 10 → x ≤ 10 → ok k (nI x) = ok' k (nI x)) (w : Nat) : ∀ (n m : Nat) (s : TS), TSI m s → m + n ≤ 10 → tlR ok ot w n s = tlR ok' ot w n s := by
  intro n
  induction n with
  | zero => intro m s _ _; rfl
  | succ n ih =>
    intro m s h hm
    unfold tlR
    rw [tl1_cong hot h (by omega) (Nat.mod_lt _ (by decide)) hk]
    cases hc : tl1 ok' ot s (w / 10 ^ n % 10) with
    | none => rfl
    | some s1 => exact ih (m + 1) s1 (TSI_step hot h (Nat.mod_lt _ (by decide)) hc) (by omega)
theorem bo_cong {fv fv' ht : Nat → Int32} {tall : Int32} : ∀ (n f : Nat) (s : Int32 × Int32), (∀ i, f ≤ i → i < f + n → fv i = fv' i) → bo fv ht tall n f s = bo fv' ht tall n f s := by
  intro n
  induction n with
  | zero => intro f s _; rfl
  | succ n ih =>
    intro f s h
    unfold bo
    rw [h f (Nat.le_refl f) (by omega)]
    exact ih (f + 1) _ (fun i h1 h2 => h i (by omega) (by omega))
/-- two accounts of what lines ahead took: alike where it counts, and small -/
def Rm (c : Nat) (mo mo' : Nat → Int32) : Prop := ∀ j, j < 50 → mo j = mo' j ∧ ∃ a, a ≤ c ∧ mo j = nI a
theorem Rm_spd {c : Nat} {mo mo' : Nat → Int32} (h : Rm c mo mo') {q : Nat × TS} {m : Nat} (hq : TSI m q.2) (hm : m ≤ 10) : Rm (c + 10) (spd mo q) (spd mo' q) := by
  intro j hj
  obtain ⟨h1, a, ha, he⟩ := h j hj
  unfold spd
  by_cases hc : 10 * q.1 ≤ j ∧ j < 10 * q.1 + 10
  · rw [if_pos hc, if_pos hc, h1]
    obtain ⟨x, hx, hxe⟩ := hq.2.2 (j - 10 * q.1)
    exact ⟨rfl, a + x, by omega, by rw [← h1, he, hxe, nI_add]⟩
  · rw [if_neg hc, if_neg hc]
    exact ⟨h1, a, by omega, he⟩
def okE (okf okf' : OK) (nf : Nat) : Prop := ∀ c mo mo', c ≤ 40 → Rm c mo mo' → ∀ f k x, f < nf → k < 10 → x ≤ 10 → okf mo f k (nI x) = okf' mo' f k (nI x)
theorem pl1_cong {okf okf' : OK} {ot ht : Nat → Int32} {tall : Int32} {nf : Nat} (h5 : nf ≤ 5) (hot : otI ot) (hE : okE okf okf' nf) {c : Nat} (hc : c ≤ 40) {mo mo' : Nat → Int32} (hR : Rm c mo mo') (w : Nat) : pl1 okf ot ht tall nf mo w = pl1 okf' ot ht tall nf mo' w := by
  have ht1 : ∀ f, f < nf → tlR (okf mo f) ot w (szw w) ts0 = tlR (okf' mo' f) ot w (szw w) ts0 := fun f hf => tlR_cong hot (fun k x hk hx => hE c mo mo' hc hR f k x hf hk hx) w (szw w) 0 ts0 TSI_0 (by have := @szw_le w; omega)
  have hb : boF okf ot ht tall nf mo w = boF okf' ot ht tall nf mo' w := by
    unfold boF
    rw [bo_cong (fv' := fvF okf' ot mo' w) nf 0 (0, -1) (fun i _ hi => by unfold fvF; rw [ht1 i (by omega)])]
  unfold pl1
  rw [hb]
  by_cases hn : boF okf' ot ht tall nf mo' w = -1
  · rw [if_pos hn, if_pos hn]
  · rw [if_neg hn, if_neg hn]
    have hbr : ∃ b, b < nf ∧ boF okf' ot ht tall nf mo' w = nI b := by
      have key : ∀ (n f : Nat) (s : Int32 × Int32), (s.2 = -1 ∨ ∃ b, b < f + n ∧ s.2 = nI b) → ((bo (fvF okf' ot mo' w) ht tall n f s).2 = -1 ∨ ∃ b, b < f + n ∧ (bo (fvF okf' ot mo' w) ht tall n f s).2 = nI b) := by
        intro n
        induction n with
        | zero => intro f s h; exact h
        | succ n ih =>
          intro f s h
          unfold bo
          have := ih (f + 1) (if ht f < tall then s else if btr ht (fvF okf' ot mo' w f) f s.1 s.2 then (fvF okf' ot mo' w f, nI f) else s) (by
            split
            · rcases h with h | ⟨b, h1, h2⟩
              · exact Or.inl h
              · exact Or.inr ⟨b, by omega, h2⟩
            · split
              · exact Or.inr ⟨f, by omega, rfl⟩
              · rcases h with h | ⟨b, h1, h2⟩
                · exact Or.inl h
                · exact Or.inr ⟨b, by omega, h2⟩)
          rw [show f + (n + 1) = f + 1 + n by omega]
          exact this
      have := (key nf 0 (0, -1) (Or.inl rfl)).resolve_left hn
      rw [Nat.zero_add] at this
      exact this
    obtain ⟨b, hb1, hb2⟩ := hbr
    rw [hb2, iz_nI (by omega), ht1 b hb1]
theorem pl1_TSI {okf : OK} {ot ht : Nat → Int32} {tall : Int32} {nf : Nat} (hot : otI ot) {mo : Nat → Int32} {w : Nat} {q : Nat × TS} (h : pl1 okf ot ht tall nf mo w = some q) : TSI (szw w) q.2 := by
  unfold pl1 at h
  split at h
  · cases h
  · cases hc : tlR (okf mo (iz (boF okf ot ht tall nf mo w))) ot w (szw w) ts0 with
    | none => rw [hc] at h; cases h
    | some s =>
      rw [hc] at h
      cases h
      have := TSI_run hot w (szw w) 0 ts0 s TSI_0 hc
      rw [Nat.zero_add] at this
      exact this
def plE (o o' : Option (List (Nat × TS) × (Nat → Int32))) : Prop := match o, o' with
  | none, none => True
  | some a, some b => a.1 = b.1 ∧ Rm 40 a.2 b.2
  | _, _ => False
theorem Rm.mono {c d : Nat} {mo mo' : Nat → Int32} (h : Rm c mo mo') (hcd : c ≤ d) : Rm d mo mo' := fun j hj => ⟨(h j hj).1, (h j hj).2.imp fun a ha => ⟨by omega, ha.2⟩⟩
theorem plA_cong {okf okf' : OK} {ot ht : Nat → Int32} {tall : Int32} {nf : Nat} (h5 : nf ≤ 5) (hot : otI ot) (hE : okE okf okf' nf) : ∀ (ws : List Nat) (acc : List (Nat × TS)) (mo mo' : Nat → Int32) (c : Nat), Rm c mo mo' → c + 10 * ws.length ≤ 40 → plE (plA okf ot ht tall nf ws acc mo) (plA okf' ot ht tall nf ws acc mo') := by
  intro ws
  induction ws with
  | nil => intro acc mo mo' c h hc; exact ⟨rfl, h.mono (by simpa using hc)⟩
  | cons w ws ih =>
    intro acc mo mo' c h hc
    rw [List.length_cons] at hc
    unfold plA
    rw [pl1_cong h5 hot hE (by omega) h w]
    cases hq : pl1 okf' ot ht tall nf mo' w with
    | none => exact trivial
    | some q => exact ih _ _ _ (c + 10) (Rm_spd h (pl1_TSI hot hq) szw_le) (by omega)
/-- each line of a plan: its fount, and what its try holds -/
def plI (wsz : List Nat) (L : List (Nat × TS)) : Prop := L.length = wsz.length ∧ ∀ (i : Nat) (q : Nat × TS), L[i]? = some q → q.1 < 5 ∧ ∃ w, wsz[i]? = some w ∧ TSI (szw w) q.2
theorem pl1_lt {okf : OK} {ot ht : Nat → Int32} {tall : Int32} {nf : Nat} (h5 : nf ≤ 5) {mo : Nat → Int32} {w : Nat} {q : Nat × TS} (h : pl1 okf ot ht tall nf mo w = some q) : q.1 < 5 := by
  unfold pl1 at h
  split at h
  · cases h
  · next hn =>
    obtain ⟨b, hb, hbe, -, -⟩ := (bo_ok (fv := fvF okf ot mo w) (ht := ht) (tall := tall) nf 0 (0, -1) (by omega) (Or.inl rfl)).resolve_left hn
    cases hc : tlR (okf mo (iz (boF okf ot ht tall nf mo w))) ot w (szw w) ts0 with
    | none => rw [hc] at h; cases h
    | some s =>
      rw [hc] at h
      cases h
      show iz (boF okf ot ht tall nf mo w) < 5
      unfold boF
      rw [hbe, iz_nI (by omega)]
      exact hb
theorem plA_I {okf : OK} {ot ht : Nat → Int32} {tall : Int32} {nf : Nat} (h5 : nf ≤ 5) (hot : otI ot) : ∀ (ws pre : List Nat) (acc : List (Nat × TS)) (mo : Nat → Int32) (a : List (Nat × TS) × (Nat → Int32)), plI pre acc → plA okf ot ht tall nf ws acc mo = some a → plI (pre ++ ws) a.1 := by
  intro ws
  induction ws with
  | nil => intro pre acc mo a h he; cases he; rw [List.append_nil]; exact h
  | cons w ws ih =>
    intro pre acc mo a h he
    unfold plA at he
    cases hq : pl1 okf ot ht tall nf mo w with
    | none => rw [hq] at he; cases he
    | some q =>
      rw [hq] at he
      have := ih (pre ++ [w]) (acc ++ [q]) (spd mo q) a ⟨by rw [List.length_append, List.length_append, h.1]; rfl, fun i q' hi => by
        by_cases hlt : i < acc.length
        · rw [List.getElem?_append_left hlt] at hi
          obtain ⟨h1, w', h2, h3⟩ := h.2 i q' hi
          exact ⟨h1, w', by rw [List.getElem?_append_left (by rw [← h.1]; exact hlt)]; exact h2, h3⟩
        · have hie : i = acc.length := by
            have h9 := (List.getElem?_eq_some_iff.mp hi).1
            rw [List.length_append, List.length_singleton] at h9
            omega
          subst hie
          rw [List.getElem?_append_right (Nat.le_refl _), Nat.sub_self] at hi
          cases hi
          exact ⟨pl1_lt h5 hq, w, by rw [h.1, List.getElem?_append_right (Nat.le_refl _), Nat.sub_self]; rfl, pl1_TSI hot hq⟩⟩ he
      rw [List.append_assoc] at this
      exact this
theorem flS_nI {L : List (Nat × TS)} (h : ∀ q ∈ L, ∃ c, c ≤ 10 ∧ q.2.2.1 = nI c) : ∃ C, C ≤ 10 * L.length ∧ flS L = nI C := by
  have key : ∀ (L : List (Nat × TS)) (a : Nat), (∀ q ∈ L, ∃ c, c ≤ 10 ∧ q.2.2.1 = nI c) → ∃ C, C ≤ a + 10 * L.length ∧ L.foldl (fun a q => a + q.2.2.1) (nI a) = nI C := by
    intro L
    induction L with
    | nil => intro a _; exact ⟨a, by omega, rfl⟩
    | cons q L ih =>
      intro a h
      obtain ⟨c, hc, he⟩ := h q List.mem_cons_self
      obtain ⟨C, h1, h2⟩ := ih (a + c) (fun q' hq' => h q' (List.mem_cons_of_mem _ hq'))
      refine ⟨C, by rw [List.length_cons]; omega, ?_⟩
      rw [List.foldl_cons, he, nI_add]
      exact h2
  obtain ⟨C, h1, h2⟩ := key L 0 h
  exact ⟨C, by omega, h2⟩
theorem plI_fl {wsz : List Nat} {L : List (Nat × TS)} (h : plI wsz L) : ∃ C, C ≤ 10 * L.length ∧ flS L = nI C := by
  refine flS_nI fun q hq => ?_
  obtain ⟨i, hi⟩ := List.getElem?_of_mem hq
  obtain ⟨-, w, -, -, ⟨c, hc, he⟩, -⟩ := h.2 i q hi
  exact ⟨c, by have := @szw_le w; omega, he⟩
theorem wds_len (wd : Nat → Nat) (p k n : Nat) : (wds wd p k n).length = n - k := by simp [wds]
theorem wds_get (wd : Nat → Nat) (p : Nat) {i n : Nat} (h : i < n) : (wds wd p 0 n)[i]? = some (wd (4 * p + i)) := by
  simp [wds, List.getElem?_range', h]
end
section
/-! THE REFERENCE: what would be, and what there is -/
section VTB
variable {P : Pm} {R : Room} {Z : Zc} {cc : ByteArray} {own : String} {lo : Lo} {pc : Nat} {rest : List Value} {g : MG} {cs sl : Nat}
theorem v_tabOut (C : Cx P Z cc own) {dflt a b : Int} {offs : Array Int} {len : Nat} {x : Int32} {tgt : Nat} (hdg : decode cc pc = .ok (.tableswitch dflt a b offs, len)) (h : x.toInt < a ∨ b < x.toInt) (ht : (pc : Int) + dflt = (tgt : Int)) (k : V P R Z lo tgt rest g cs sl) : V P R Z lo pc (.int x :: rest) g cs sl := by
  obtain ⟨p, l, e, s, m, args, below, meth, c, Q, nL⟩ := P
  exact fun ls H locs hl hw hS => lv_tableOut C.1 C.2.1 hdg h ht (k ls H locs hl hw hS)
theorem v_tabIn (C : Cx P Z cc own) {dflt a b : Int} {offs : Array Int} {len : Nat} {x : Int32} {off : Int} {tgt : Nat} (hdg : decode cc pc = .ok (.tableswitch dflt a b offs, len)) (h1 : ¬ x.toInt < a) (h2 : ¬ b < x.toInt) (ho : offs[(x.toInt - a).toNat]? = some off) (ht : (pc : Int) + off = (tgt : Int)) (k : V P R Z lo tgt rest g cs sl) : V P R Z lo pc (.int x :: rest) g cs sl := by
  obtain ⟨p, l, e, s, m, args, below, meth, c, Q, nL⟩ := P
  exact fun ls H locs hl hw hS => lv_tableIn C.1 C.2.1 hdg h1 h2 ho ht (k ls H locs hl hw hS)
end VTB
theorem plM_I {g : MG} {p nl nf : Nat} {wd : Nat → Nat} (h5 : nf ≤ 5) (hot : otI (g 9)) {a : List (Nat × TS) × (Nat → Int32)} (h : plM g p nl nf wd = some a) : plI (wds wd p 0 nl) a.1 := by
  unfold plM at h
  split at h
  · cases h
  · have := plA_I h5 hot (wds wd p 0 nl) [] [] (moZ g) a ⟨rfl, fun i q hq => by simp at hq⟩ h
    rwa [List.nil_append] at this
def wdF (o : Option (List (Nat × TS) × (Nat → Int32))) : Int32 := match o with
  | none => -1
  | some a => flS a.1
def prT (g : MG) (wd : Nat → Nat) (p nl t : Nat) (o : Option (List (Nat × TS) × (Nat → Int32))) : Int32 := match o with
  | none => -1
  | some a => mx0 (sumI (fun k => g 5 (lfn a.1 k) * nI (szw (wd (4 * p + k)))) nl * g 10 t - flS a.1 * g 11 t)
theorem plQ_wd {o : Option (List (Nat × TS) × (Nat → Int32))} {r : Int32} {g' : MG} (h : plQ o r g') : r = wdF o := by
  cases o with
  | none => exact h
  | some a => exact h.1
set_option maxRecDepth 100000 in
theorem c_proofTried (l : Launch) (Z : Zc) (p nl nf t : Nat) (wd : Nat → Nat) (g : MG) (hp : p < 6) (hot : otI (g 9)) (hnf : g 0 1 = nI nf) (h5 : nf ≤ 5) (hnl : g 14 p = nI nl) (h4 : nl ≤ 4) (hW : ∀ j, j < 24 → g 17 j = nI (wd j) ∧ wd j < 2 ^ 31) (ht : t < 4) (het : g 12 p = nI t) : MI l yX4_proofTried cX4_proofTried 5 (some .int) (rmz 4 100 0 0) Z [.ref (Z.ad 0), .int (nI p)] g (fun r g' => frP g g' ∧ r = prT g wd p nl t (plM g p nl nf wd)) := by
  refine ent_i (own := RX4) (lo := [some (.ref (Z.ad 0)), some (.int (nI p)), none, none, none]) (by decide) rfl (by simp [lg_sl, Value.category]) rfl (fun P hl C ret => ?_)
  refine v_aload_n C dX4_proofTried_0 rfl rfl ?_
  refine v_iload_n C dX4_proofTried_1 rfl rfl ?_
  refine v_callVi (n := 1) (as := [.int (nI p)]) C (c_tryPoster _ Z p nl nf wd g hp hot hnf h5 hnl h4 hW) (gv (tg4 96 rfl rfl) (tg4 98 rfl rfl) (tg0 23 rfl rfl) (tg1 6 rfl rfl) (tg4 99 rfl rfl)) (by decide +kernel) ⟨Nat.le_of_ble_eq_true rfl, Nat.le_of_ble_eq_true rfl⟩ rfl cx_M rfl rfl (Nat.le_of_ble_eq_true rfl) dX4_proofTried_2 ⟨Nat.le_of_ble_eq_true rfl, Nat.le_of_ble_eq_true rfl⟩ (fun r2 g2 hp2 => ?_)
  obtain ⟨hfr, hq⟩ := hp2
  cases ho : plM g p nl nf wd with
  | none =>
    rw [ho] at hq ret
    have hq : r2 = -1 := hq
    subst hq
    refine v_istore_n (lo' := [some (.ref (Z.ad 0)), some (.int (nI p)), some (.int (-1)), none, none]) C dX4_proofTried_5 rfl (Nat.le_of_ble_eq_true rfl) rfl rfl ?_
    refine v_iload_n C dX4_proofTried_6 rfl rfl ?_
    refine v_iconst (v := (-1)) C dX4_proofTried_7 (by decide) ?_
    refine v_icmp_ne (tgt := 13) C dX4_proofTried_8 (by decide) (fun h8 => ?_) (fun h8 => ?_)
    · exact absurd rfl h8
    · refine v_iconst (v := (-1)) C dX4_proofTried_11 (by decide) ?_
      exact ret _ _ _ _ dX4_proofTried_12 ⟨hfr, rfl⟩
  | some a =>
    obtain ⟨L, mo⟩ := a
    have hI := plM_I h5 hot ho
    rw [ho] at hq ret
    obtain ⟨hr2, -, hL⟩ := hq
    obtain ⟨Cf, hCf, hCe⟩ := plI_fl hI
    have hlen : L.length = nl := by rw [hI.1, wds_len]; omega
    subst hr2
    refine v_istore_n (lo' := [some (.ref (Z.ad 0)), some (.int (nI p)), some (.int (flS L)), none, none]) C dX4_proofTried_5 rfl (Nat.le_of_ble_eq_true rfl) rfl rfl ?_
    refine v_iload_n C dX4_proofTried_6 rfl rfl ?_
    refine v_iconst (v := (-1)) C dX4_proofTried_7 (by decide) ?_
    refine v_icmp_ne (tgt := 13) C dX4_proofTried_8 (by decide) (fun h8 => ?_) (fun h8 => ?_)
    · refine v_iconst (v := 0) C dX4_proofTried_13 (by decide) ?_
      refine v_topi (y := sumI (fun k => g 5 (lfn L k) * nI (szw (wd (4 * p + k)))) 0) rfl ?_
      refine v_istore_n (lo' := [some (.ref (Z.ad 0)), some (.int (nI p)), some (.int (flS L)), some (.int (sumI (fun k => g 5 (lfn L k) * nI (szw (wd (4 * p + k)))) 0)), none]) C dX4_proofTried_14 rfl (Nat.le_of_ble_eq_true rfl) rfl rfl ?_
      refine v_iconst (v := 0) C dX4_proofTried_15 (by decide) ?_
      refine v_topi (y := nI 0) rfl ?_
      refine v_istore (lo' := [some (.ref (Z.ad 0)), some (.int (nI p)), some (.int (flS L)), some (.int (sumI (fun k => g 5 (lfn L k) * nI (szw (wd (4 * p + k)))) 0)), some (.int (nI 0))]) C dX4_proofTried_16 (Nat.le_of_ble_eq_true rfl) rfl rfl ?_
      have loop : ∀ (n k : Nat), nl - k < n → k ≤ nl → V P (rmz 4 100 0 0) Z [some (.ref (Z.ad 0)), some (.int (nI p)), some (.int (flS L)), some (.int (sumI (fun k => g 5 (lfn L k) * nI (szw (wd (4 * p + k)))) k)), some (.int (nI k))] 18 [] g2 0 0 := by
        intro n
        induction n with
        | zero => intro k hn; exact absurd hn (Nat.not_lt_zero _)
        | succ n ih =>
          intro k hn hk
          refine v_iload C dX4_proofTried_18 rfl ?_
          refine v_aload_n C dX4_proofTried_20 rfl rfl ?_
          refine v_get C inG4 rfl 14 (by decide) (tg3 209 rfl rfl) rfl cx_M rfl dX4_proofTried_21 ?_
          refine v_iload_n C dX4_proofTried_24 rfl rfl ?_
          refine v_ialdN (a := p) C cxA14 ⟨hp, by decide⟩ dX4_proofTried_25 ?_
          refine v_topi (y := nI nl) (by rw [hfr.1 14 (by omega) (by decide)]; exact hnl) ?_
          refine v_icmp_ge (tgt := 65) C dX4_proofTried_26 (by decide) (fun h26 => ?_) (fun h26 => ?_)
          · have hkn : k = nl := Nat.le_antisymm hk ((nI_leI (by omega) (by omega)).mp h26)
            refine v_lo (lo' := [some (.ref (Z.ad 0)), some (.int (nI p)), some (.int (flS L)), some (.int (sumI (fun k => g 5 (lfn L k) * nI (szw (wd (4 * p + k)))) nl)), some (.int (nI k))]) (by rw [hkn]) ?_
            refine v_aload_n C dX4_proofTried_65 rfl rfl ?_
            refine v_iload_n C dX4_proofTried_66 rfl rfl ?_
            refine v_iload_n C dX4_proofTried_67 rfl rfl ?_
            refine v_iload_n C dX4_proofTried_68 rfl rfl ?_
            refine v_callVi (n := 3) (as := [.int (nI p), .int (sumI (fun k => g 5 (lfn L k) * nI (szw (wd (4 * p + k)))) nl), .int (flS L)]) C (c_worth _ Z p t (sumI (fun k => g 5 (lfn L k) * nI (szw (wd (4 * p + k)))) nl) (flS L) g2 hp ht (by rw [hfr.1 12 (by omega) (by decide)]; exact het)) (gv (tg4 139 rfl rfl) (tg4 141 rfl rfl) (tg0 31 rfl rfl) (tg1 6 rfl rfl) (tg4 142 rfl rfl)) (by decide +kernel) ⟨Nat.le_of_ble_eq_true rfl, Nat.le_of_ble_eq_true rfl⟩ rfl cx_M rfl rfl (Nat.le_of_ble_eq_true rfl) dX4_proofTried_69 ⟨Nat.le_of_ble_eq_true rfl, Nat.le_of_ble_eq_true rfl⟩ (fun r69 g69 hp69 => ?_)
            obtain ⟨rfl, hg69⟩ := hp69
            rw [hg69]
            exact ret _ _ _ _ dX4_proofTried_72 ⟨hfr, by rw [hfr.1 10 (by omega) (by decide), hfr.1 11 (by omega) (by decide)]; rfl⟩
          · have hkn : k < nl := Nat.lt_of_not_le fun q => h26 ((nI_leI (by omega) (by omega)).mpr q)
            obtain ⟨q, hq⟩ : ∃ q, L[k]? = some q := ⟨_, List.getElem?_eq_getElem (by omega)⟩
            have hqf : lfn L k = q.1 := by unfold lfn; rw [hq]
            have hq5 : lfn L k < 5 := by rw [hqf]; exact (hI.2 k q hq).1
            refine v_iload_n C dX4_proofTried_29 rfl rfl ?_
            refine v_aload_n C dX4_proofTried_30 rfl rfl ?_
            refine v_get C inG4 rfl 5 (by decide) (tg3 200 rfl rfl) rfl cx_M rfl dX4_proofTried_31 ?_
            refine v_aload_n C dX4_proofTried_34 rfl rfl ?_
            refine v_get C inG4 rfl 22 (by decide) (tg3 217 rfl rfl) rfl cx_M rfl dX4_proofTried_35 ?_
            refine v_iload C dX4_proofTried_38 rfl ?_
            refine v_ialdN (a := k) C cxA22 (by omega) dX4_proofTried_40 ?_
            refine v_topi (y := nI (lfn L k)) (by rw [hqf]; exact (hL k q hq).1) ?_
            refine v_ialdN (a := (lfn L k)) C cxA5 (by omega) dX4_proofTried_41 ?_
            refine v_topi (y := g 5 (lfn L k)) (by rw [hfr.1 5 (by omega) (by decide)]) ?_
            refine v_aload_n C dX4_proofTried_42 rfl rfl ?_
            refine v_get C inG4 rfl 17 (by decide) (tg3 212 rfl rfl) rfl cx_M rfl dX4_proofTried_43 ?_
            refine v_iconst (v := 4) C dX4_proofTried_46 (by decide) ?_
            refine v_iload_n C dX4_proofTried_47 rfl rfl ?_
            refine v_imul C dX4_proofTried_48 ?_
            refine v_topi (y := nI (4 * p)) (by rw [show (4 : Int32) = nI 4 from rfl, nI_mul]) ?_
            refine v_iload C dX4_proofTried_49 rfl ?_
            refine v_iadd C dX4_proofTried_51 ?_
            refine v_topi (y := nI (4 * p + k)) (nI_add _ _) ?_
            refine v_ialdN (a := (4 * p + k)) C cxA17 (by omega) dX4_proofTried_52 ?_
            refine v_topi (y := nI (wd (4 * p + k))) (by rw [hfr.1 17 (by omega) (by decide)]; exact (hW _ (by omega)).1) ?_
            refine v_callSi (n := 1) (as := [.int (nI (wd (4 * p + k)))]) C (c_size _ Z (wd (4 * p + k)) g2 (hW _ (by omega)).2) (gs (tg4 108 rfl rfl) (tg4 109 rfl rfl) (tg1 6 rfl rfl) (tg4 110 rfl rfl)) (by decide +kernel) ⟨Nat.le_of_ble_eq_true rfl, Nat.le_of_ble_eq_true rfl⟩ rfl rfl (Nat.le_of_ble_eq_true rfl) dX4_proofTried_53 ⟨Nat.le_of_ble_eq_true rfl, Nat.le_of_ble_eq_true rfl⟩ (fun r53 g53 hp53 => ?_)
            obtain ⟨rfl, hg53⟩ := hp53
            rw [hg53]
            refine v_imul C dX4_proofTried_56 ?_
            refine v_iadd C dX4_proofTried_57 ?_
            refine v_topi (y := sumI (fun k => g 5 (lfn L k) * nI (szw (wd (4 * p + k)))) (k + 1)) rfl ?_
            refine v_istore_n (lo' := [some (.ref (Z.ad 0)), some (.int (nI p)), some (.int (flS L)), some (.int (sumI (fun k => g 5 (lfn L k) * nI (szw (wd (4 * p + k)))) (k + 1))), some (.int (nI k))]) C dX4_proofTried_58 rfl (Nat.le_of_ble_eq_true rfl) rfl rfl ?_
            refine v_iinc (lo' := [some (.ref (Z.ad 0)), some (.int (nI p)), some (.int (flS L)), some (.int (sumI (fun k => g 5 (lfn L k) * nI (szw (wd (4 * p + k)))) (k + 1))), some (.int ((nI k) + 1))]) C dX4_proofTried_59 rfl rfl rfl rfl ?_
            refine v_lo (lo' := [some (.ref (Z.ad 0)), some (.int (nI p)), some (.int (flS L)), some (.int (sumI (fun k => g 5 (lfn L k) * nI (szw (wd (4 * p + k)))) (k + 1))), some (.int (nI (k + 1)))]) (by rw [← nI_1 k]) ?_
            refine v_goto (tgt := 18) C dX4_proofTried_62 (by decide) ?_
            exact ih (k + 1) (by omega) (by omega)
      exact loop (nl + 1) 0 (by omega) (by omega)
    · exact absurd h8 (by rw [hCe]; exact nI_m1 (by rw [hlen] at hCf; omega))
def blkO (g : MG) (a : Nat) (v : Int32) : Int32 := if v = 0 then g 6 a else if v = 1 then g 6 a - g 7 a else g 8 a
set_option maxRecDepth 100000 in
theorem c_blockTold (l : Launch) (Z : Zc) (a : Nat) (v : Int32) (g : MG) (ha : a < 50) : MI l yX4_blockTold cX4_blockTold 3 (some .int) (rmz 0 0 0 0) Z [.ref (Z.ad 0), .int (nI a), .int v] g (fun r g' => r = blkO g a v ∧ g' = g) := by
  refine ent_i (own := RX4) (lo := [some (.ref (Z.ad 0)), some (.int (nI a)), some (.int v)]) (by decide) rfl (by simp [lg_sl, Value.category]) rfl (fun P hl C ret => ?_)
  refine v_iload_n C dX4_blockTold_0 rfl rfl ?_
  refine v_if_ne (tgt := 13) C dX4_blockTold_1 (by decide) (fun h1 => ?_) (fun h1 => ?_)
  · refine v_iload_n C dX4_blockTold_13 rfl rfl ?_
    refine v_iconst (v := 1) C dX4_blockTold_14 (by decide) ?_
    refine v_icmp_ne (tgt := 34) C dX4_blockTold_15 (by decide) (fun h15 => ?_) (fun h15 => ?_)
    · refine v_aload_n C dX4_blockTold_34 rfl rfl ?_
      refine v_get C inG4 rfl 8 (by decide) (tg3 203 rfl rfl) rfl cx_M rfl dX4_blockTold_35 ?_
      refine v_iload_n C dX4_blockTold_38 rfl rfl ?_
      refine v_ialdN (a := a) C cxA8 ⟨ha, by decide⟩ dX4_blockTold_39 ?_
      exact ret _ _ _ _ dX4_blockTold_40 ⟨by simp [blkO, h1, h15], rfl⟩
    · refine v_aload_n C dX4_blockTold_18 rfl rfl ?_
      refine v_get C inG4 rfl 6 (by decide) (tg3 201 rfl rfl) rfl cx_M rfl dX4_blockTold_19 ?_
      refine v_iload_n C dX4_blockTold_22 rfl rfl ?_
      refine v_ialdN (a := a) C cxA6 ⟨ha, by decide⟩ dX4_blockTold_23 ?_
      refine v_aload_n C dX4_blockTold_24 rfl rfl ?_
      refine v_get C inG4 rfl 7 (by decide) (tg3 202 rfl rfl) rfl cx_M rfl dX4_blockTold_25 ?_
      refine v_iload_n C dX4_blockTold_28 rfl rfl ?_
      refine v_ialdN (a := a) C cxA7 ⟨ha, by decide⟩ dX4_blockTold_29 ?_
      refine v_isub C dX4_blockTold_30 ?_
      refine v_goto (tgt := 40) C dX4_blockTold_31 (by decide) ?_
      exact ret _ _ _ _ dX4_blockTold_40 ⟨by simp [blkO, h1, h15], rfl⟩
  · refine v_aload_n C dX4_blockTold_4 rfl rfl ?_
    refine v_get C inG4 rfl 6 (by decide) (tg3 201 rfl rfl) rfl cx_M rfl dX4_blockTold_5 ?_
    refine v_iload_n C dX4_blockTold_8 rfl rfl ?_
    refine v_ialdN (a := a) C cxA6 ⟨ha, by decide⟩ dX4_blockTold_9 ?_
    refine v_goto (tgt := 40) C dX4_blockTold_10 (by decide) ?_
    exact ret _ _ _ _ dX4_blockTold_40 ⟨by simp [blkO, h1], rfl⟩
def cdBlock (g : MG) (f k v : Int32) : Nat := if isFL g f k = false ∨ inB v 0 2 = false then 1 else 0
set_option maxRecDepth 100000 in
theorem c_block (l : Launch) (Z : Zc) (f k v : Int32) (g : MG) (hI : IvM g) : MI l yX4_block cX4_block 4 (some .int) (rmz 2 43 0 0) Z [.ref (Z.ad 0), .int f, .int k, .int v] g (PM g (cdBlock g f k v) (blkO g (atO f k) v) (g)) := by
  refine ent_i (own := RX4) (lo := [some (.ref (Z.ad 0)), some (.int f), some (.int k), some (.int v)]) (by decide) rfl (by simp [lg_sl, Value.category]) rfl (fun P hl C ret => ?_)
  obtain ⟨⟨nf, hf5, hnf⟩, ⟨np, hp6, hnp⟩, hot, hnl, htn, his, hwd, htk⟩ := id hI
  have enf : nfO g = nf := by unfold nfO; rw [hnf]; exact iz_nI (by omega)
  have enp : npO g = np := by unfold npO; rw [hnp]; exact iz_nI (by omega)
  refine v_aload_n C dX4_block_0 rfl rfl ?_
  refine v_iconst (v := 0) C dX4_block_1 (by decide) ?_
  refine v_put C inG4 rfl tyX4 tyX4_ok nmX4 0 (by decide) (tg3 195 rfl rfl) rfl rfl (ty := .int) rfl rfl rfl cx_M (Nat.le_of_ble_eq_true rfl) rfl (by omega) cx_M dX4_block_2 ?_
  refine v_aload_n C dX4_block_5 rfl rfl ?_
  refine v_iload_n C dX4_block_6 rfl rfl ?_
  refine v_callVi (n := 1) (as := [.int f]) C (c_isFount _ Z nf f (wr g 0 0 0) hnf hf5) (gv (tg4 56 rfl rfl) (tg4 58 rfl rfl) (tg0 21 rfl rfl) (tg1 6 rfl rfl) (tg4 59 rfl rfl)) (by decide +kernel) ⟨Nat.le_of_ble_eq_true rfl, Nat.le_of_ble_eq_true rfl⟩ rfl cx_M rfl rfl (Nat.le_of_ble_eq_true rfl) dX4_block_7 ⟨Nat.le_of_ble_eq_true rfl, Nat.le_of_ble_eq_true rfl⟩ (fun r7 g7 hp7 => ?_)
  obtain ⟨rfl, hg7⟩ := hp7
  rw [hg7]
  refine v_if_eq (tgt := 43) C dX4_block_10 (by decide) (fun h10 => ?_) (fun h10 => ?_)
  · have k10 := bI_0.mp h10
    refine v_aload_n C dX4_block_43 rfl rfl ?_
    refine v_iconst (v := 1) C dX4_block_44 (by decide) ?_
    refine v_callVi (n := 1) (as := [.int 1]) C (c_no _ Z 1 (wr g 0 0 0)) (gv (tg4 48 rfl rfl) (tg4 50 rfl rfl) (tg0 20 rfl rfl) (tg1 6 rfl rfl) (tg4 51 rfl rfl)) (by decide +kernel) ⟨Nat.le_of_ble_eq_true rfl, Nat.le_of_ble_eq_true rfl⟩ rfl cx_M rfl rfl (Nat.le_of_ble_eq_true rfl) dX4_block_45 ⟨Nat.le_of_ble_eq_true rfl, Nat.le_of_ble_eq_true rfl⟩ (fun r45 g45 hp45 => ?_)
    obtain ⟨rfl, hg45⟩ := hp45
    rw [hg45]
    exact ret _ _ _ _ dX4_block_48 (PM.no (k := 1) (by unfold cdBlock isFL; rw [enf, if_pos (Or.inl (by rw [k10]; rfl))]) (by decide) rfl (fun j h1 h2 => wr_ne _ _ _ _ (Or.inr (by omega))) (fun q h1 h2 => wr_row _ _ _ _ (by omega)) (fun q hq => wr_row _ _ _ _ (by omega)))
  · have k10 := bI_1.mp h10
    refine v_iload_n C dX4_block_13 rfl rfl ?_
    refine v_callSi (n := 1) (as := [.int k]) C (c_isLetter _ Z k (wr g 0 0 0)) (gs (tg4 60 rfl rfl) (tg4 61 rfl rfl) (tg1 6 rfl rfl) (tg4 62 rfl rfl)) (by decide +kernel) ⟨Nat.le_of_ble_eq_true rfl, Nat.le_of_ble_eq_true rfl⟩ rfl rfl (Nat.le_of_ble_eq_true rfl) dX4_block_14 ⟨Nat.le_of_ble_eq_true rfl, Nat.le_of_ble_eq_true rfl⟩ (fun r14 g14 hp14 => ?_)
    obtain ⟨rfl, hg14⟩ := hp14
    rw [hg14]
    refine v_if_eq (tgt := 43) C dX4_block_17 (by decide) (fun h17 => ?_) (fun h17 => ?_)
    · have k17 := bI_0.mp h17
      refine v_aload_n C dX4_block_43 rfl rfl ?_
      refine v_iconst (v := 1) C dX4_block_44 (by decide) ?_
      refine v_callVi (n := 1) (as := [.int 1]) C (c_no _ Z 1 (wr g 0 0 0)) (gv (tg4 48 rfl rfl) (tg4 50 rfl rfl) (tg0 20 rfl rfl) (tg1 6 rfl rfl) (tg4 51 rfl rfl)) (by decide +kernel) ⟨Nat.le_of_ble_eq_true rfl, Nat.le_of_ble_eq_true rfl⟩ rfl cx_M rfl rfl (Nat.le_of_ble_eq_true rfl) dX4_block_45 ⟨Nat.le_of_ble_eq_true rfl, Nat.le_of_ble_eq_true rfl⟩ (fun r45 g45 hp45 => ?_)
      obtain ⟨rfl, hg45⟩ := hp45
      rw [hg45]
      exact ret _ _ _ _ dX4_block_48 (PM.no (k := 1) (by unfold cdBlock isFL; rw [enf, if_pos (Or.inl (by rw [k10, k17]; rfl))]) (by decide) rfl (fun j h1 h2 => wr_ne _ _ _ _ (Or.inr (by omega))) (fun q h1 h2 => wr_row _ _ _ _ (by omega)) (fun q hq => wr_row _ _ _ _ (by omega)))
    · have k17 := bI_1.mp h17
      refine v_iload_n C dX4_block_20 rfl rfl ?_
      refine v_iconst (v := 0) C dX4_block_21 (by decide) ?_
      refine v_iconst (v := 2) C dX4_block_22 (by decide) ?_
      refine v_callSi (n := 3) (as := [.int v, .int 0, .int 2]) C (c_isIn _ Z v 0 2 (wr g 0 0 0)) (gs (tg4 45 rfl rfl) (tg4 46 rfl rfl) (tg1 6 rfl rfl) (tg4 47 rfl rfl)) (by decide +kernel) ⟨Nat.le_of_ble_eq_true rfl, Nat.le_of_ble_eq_true rfl⟩ rfl rfl (Nat.le_of_ble_eq_true rfl) dX4_block_23 ⟨Nat.le_of_ble_eq_true rfl, Nat.le_of_ble_eq_true rfl⟩ (fun r23 g23 hp23 => ?_)
      obtain ⟨rfl, hg23⟩ := hp23
      rw [hg23]
      refine v_if_eq (tgt := 43) C dX4_block_26 (by decide) (fun h26 => ?_) (fun h26 => ?_)
      · have k26 := bI_0.mp h26
        refine v_aload_n C dX4_block_43 rfl rfl ?_
        refine v_iconst (v := 1) C dX4_block_44 (by decide) ?_
        refine v_callVi (n := 1) (as := [.int 1]) C (c_no _ Z 1 (wr g 0 0 0)) (gv (tg4 48 rfl rfl) (tg4 50 rfl rfl) (tg0 20 rfl rfl) (tg1 6 rfl rfl) (tg4 51 rfl rfl)) (by decide +kernel) ⟨Nat.le_of_ble_eq_true rfl, Nat.le_of_ble_eq_true rfl⟩ rfl cx_M rfl rfl (Nat.le_of_ble_eq_true rfl) dX4_block_45 ⟨Nat.le_of_ble_eq_true rfl, Nat.le_of_ble_eq_true rfl⟩ (fun r45 g45 hp45 => ?_)
        obtain ⟨rfl, hg45⟩ := hp45
        rw [hg45]
        exact ret _ _ _ _ dX4_block_48 (PM.no (k := 1) (by unfold cdBlock; rw [if_pos (Or.inr k26)]) (by decide) rfl (fun j h1 h2 => wr_ne _ _ _ _ (Or.inr (by omega))) (fun q h1 h2 => wr_row _ _ _ _ (by omega)) (fun q hq => wr_row _ _ _ _ (by omega)))
      · have k26 := bI_1.mp h26
        have hcd : cdBlock g f k v = 0 := by unfold cdBlock isFL; rw [enf, if_neg (by rw [k10, k17, k26]; decide)]
        obtain ⟨a, ha, rfl⟩ := isN_ex k10
        obtain ⟨c, hc, rfl⟩ := isN_ex k17
        have eat : atO (nI a) (nI c) = 10 * a + c := atO_nI (by omega) hc
        refine v_aload_n C dX4_block_29 rfl rfl ?_
        refine v_bipush (v := 10) C dX4_block_30 (by decide) ?_
        refine v_iload_n C dX4_block_32 rfl rfl ?_
        refine v_imul C dX4_block_33 ?_
        refine v_iload_n C dX4_block_34 rfl rfl ?_
        refine v_iadd C dX4_block_35 ?_
        refine v_topi (y := nI (10 * a + c)) (nI_10 a c) ?_
        refine v_iload_n C dX4_block_36 rfl rfl ?_
        refine v_callVi (n := 2) (as := [.int (nI (10 * a + c)), .int v]) C (c_blockTold _ Z (10 * a + c) v (wr g 0 0 0) (by omega)) (gv (tg4 152 rfl rfl) (tg4 154 rfl rfl) (tg0 32 rfl rfl) (tg1 6 rfl rfl) (tg4 155 rfl rfl)) (by decide +kernel) ⟨Nat.le_of_ble_eq_true rfl, Nat.le_of_ble_eq_true rfl⟩ rfl cx_M rfl rfl (Nat.le_of_ble_eq_true rfl) dX4_block_37 ⟨Nat.le_of_ble_eq_true rfl, Nat.le_of_ble_eq_true rfl⟩ (fun r37 g37 hp37 => ?_)
        obtain ⟨hr37, hg37⟩ := hp37
        rw [hg37]
        have hr37 : r37 = blkO g (10 * a + c) v := hr37
        subst hr37
        refine v_goto (tgt := 48) C dX4_block_40 (by decide) ?_
        exact ret _ _ _ _ dX4_block_48 ⟨by rw [hcd]; rfl, fun _ => by rw [eat], RE.of (fun j h1 h2 => wr_ne _ _ _ _ (Or.inr (by omega))) (fun q h1 h2 => wr_row _ _ _ _ (by omega)), fun q hq => wr_row _ _ _ _ (by omega)⟩
end
section
/-! THE REFERENCE: told, about, count -/
theorem IvM_nl {g : MG} (h : IvM g) {p : Nat} (hp : p < 6) : g 14 p = nI (nlO g p) ∧ nlO g p ≤ 4 := by
  obtain ⟨n, hn, he⟩ := h.2.2.2.1 p hp
  have e : nlO g p = n := by unfold nlO; rw [he]; exact iz_nI (by omega)
  rw [e]; exact ⟨he, hn⟩
theorem IvM_W {g : MG} (h : IvM g) : ∀ j, j < 24 → g 17 j = nI (wdO g j) ∧ wdO g j < 2 ^ 31 := by
  intro j hj
  obtain ⟨n, hn, he⟩ := h.2.2.2.2.2.2.1 j hj
  have e : wdO g j = n := by unfold wdO; rw [he]; exact iz_nI (by omega)
  rw [e]; exact ⟨he, by omega⟩
theorem IvM_t {g : MG} (h : IvM g) {p : Nat} (hp : p < 6) : g 12 p = nI (iz (g 12 p)) ∧ iz (g 12 p) < 4 := by
  obtain ⟨n, hn, he⟩ := h.2.2.2.2.1 p hp
  have e : iz (g 12 p) = n := by rw [he]; exact iz_nI (by omega)
  rw [e]; exact ⟨he, hn⟩
theorem IvM_F {g : MG} (h : IvM g) {p : Nat} (hp : p < 6) : g 15 p = 1 → ∀ k, k < nlO g p → ∃ f, f < 5 ∧ g 18 (4 * p + k) = nI f := fun h1 k hk => (h.2.2.2.2.2.2.2 p k hp h1 hk).1
theorem IvM_T {g : MG} (h : IvM g) {p : Nat} (hp : p < 6) : g 15 p = 1 → ∀ k, k < nlO g p → g 20 (4 * p + k) = nI (tkO g (4 * p + k)) ∧ tkO g (4 * p + k) < 2 ^ 31 := by
  intro h1 k hk
  obtain ⟨n, hn, he⟩ := (h.2.2.2.2.2.2.2 p k hp h1 hk).2
  have e : tkO g (4 * p + k) = n := by unfold tkO; rw [he]; exact iz_nI (by omega)
  rw [e]; exact ⟨he, by omega⟩
theorem IvM_eq {g g' : MG} (h : IvM g) (h1 : g' 0 1 = g 0 1) (h2 : g' 0 2 = g 0 2) (hr : ∀ k, 9 ≤ k → k ≤ 20 → g' k = g k) : IvM g' := by
  unfold IvM nlO at h ⊢
  rw [h1, h2, hr 9 (by decide) (by decide), hr 14 (by decide) (by decide), hr 12 (by decide) (by decide), hr 15 (by decide) (by decide), hr 17 (by decide) (by decide), hr 18 (by decide) (by decide), hr 20 (by decide) (by decide)]
  exact h
def ltsO (g : MG) (p : Nat) : Int32 := sumI (fun k => nI (szw (wdO g (4 * p + k)))) (nlO g p)
def toldO (g : MG) (p w : Nat) : Int32 := match w with
  | 0 => g 12 p
  | 1 => g 13 p
  | 2 => g 14 p
  | 3 => ltsO g p
  | 4 => g 15 p
  | 5 => flO g p (nlO g p)
  | 6 => g 16 p
  | _ => prO g (wdO g) p (nlO g p) (iz (g 12 p))
def ltoO (g : MG) (p k : Nat) (v : Int32) : Int32 := if v = 0 then nI (szw (wdO g (4 * p + k))) else if g 15 p = 0 then -1 else if v = 1 then g 18 (4 * p + k) else if v = 2 then g 19 (4 * p + k) else g 20 (4 * p + k)
def cdTold (g : MG) (p v : Int32) : Nat := if isN (npO g) p = false ∨ inB v 0 7 = false then 1 else 0
def cdAbout (g : MG) (p k v : Int32) : Nat := if isN (npO g) p = false ∨ isN (nlO g (iz p)) k = false ∨ inB v 0 3 = false then 1 else 0
def ctO (g : MG) (w : Nat) : Int32 := match w with
  | 0 => g 0 1
  | 1 => g 0 2
  | 2 => sumI (g 15) (npO g)
  | 3 => g 0 3
  | 4 => g 0 4
  | 5 => sumI (g 6) 50
  | _ => sumI (g 7) 50
def cdCount (v : Int32) : Nat := if inB v 0 6 = false then 1 else 0
theorem inB_ex {n : Nat} {v : Int32} (hn : n < 100) (h : inB v 0 (nI n) = true) : ∃ a, a < n + 1 ∧ v = nI a := by
  obtain ⟨h1, h2⟩ := inB_t.mp h
  have e : (nI n).toInt = n := nI_toInt (by omega)
  have z : (0 : Int32).toInt = 0 := rfl
  refine ⟨iz v, ?_, (nI_iz (by omega)).symm⟩
  have : (iz v : Int) = v.toInt := by unfold iz; rw [Int32.toNatClampNeg]; omega
  omega
set_option maxRecDepth 100000 in
theorem c_posterTold (l : Launch) (Z : Zc) (p w : Nat) (g : MG) (hI : IvM g) (hp : p < 6) (hw : w < 8) : MI l yX4_posterTold cX4_posterTold 3 (some .int) (rmz 3 59 0 0) Z [.ref (Z.ad 0), .int (nI p), .int (nI w)] g (fun r g' => r = toldO g p w ∧ g' = g) := by
  refine ent_i (own := RX4) (lo := [some (.ref (Z.ad 0)), some (.int (nI p)), some (.int (nI w))]) (by decide) rfl (by simp [lg_sl, Value.category]) rfl (fun P hl C ret => ?_)
  refine v_iload_n C dX4_posterTold_0 rfl rfl ?_
  obtain rfl | rfl | rfl | rfl | rfl | rfl | rfl | rfl := (show w = 0 ∨ w = 1 ∨ w = 2 ∨ w = 3 ∨ w = 4 ∨ w = 5 ∨ w = 6 ∨ w = 7 by omega)
  · refine v_tabIn (off := 43) (tgt := 44) C dX4_posterTold_1 (by decide) (by decide) rfl (by decide) ?_
    refine v_aload_n C dX4_posterTold_44 rfl rfl ?_
    refine v_get C inG4 rfl 12 (by decide) (tg3 207 rfl rfl) rfl cx_M rfl dX4_posterTold_45 ?_
    refine v_iload_n C dX4_posterTold_48 rfl rfl ?_
    refine v_ialdN (a := p) C cxA12 ⟨hp, by decide⟩ dX4_posterTold_49 ?_
    exact ret _ _ _ _ dX4_posterTold_50 ⟨rfl, rfl⟩
  · refine v_tabIn (off := 50) (tgt := 51) C dX4_posterTold_1 (by decide) (by decide) rfl (by decide) ?_
    refine v_aload_n C dX4_posterTold_51 rfl rfl ?_
    refine v_get C inG4 rfl 13 (by decide) (tg3 208 rfl rfl) rfl cx_M rfl dX4_posterTold_52 ?_
    refine v_iload_n C dX4_posterTold_55 rfl rfl ?_
    refine v_ialdN (a := p) C cxA13 ⟨hp, by decide⟩ dX4_posterTold_56 ?_
    exact ret _ _ _ _ dX4_posterTold_57 ⟨rfl, rfl⟩
  · refine v_tabIn (off := 57) (tgt := 58) C dX4_posterTold_1 (by decide) (by decide) rfl (by decide) ?_
    refine v_aload_n C dX4_posterTold_58 rfl rfl ?_
    refine v_get C inG4 rfl 14 (by decide) (tg3 209 rfl rfl) rfl cx_M rfl dX4_posterTold_59 ?_
    refine v_iload_n C dX4_posterTold_62 rfl rfl ?_
    refine v_ialdN (a := p) C cxA14 ⟨hp, by decide⟩ dX4_posterTold_63 ?_
    exact ret _ _ _ _ dX4_posterTold_64 ⟨rfl, rfl⟩
  · refine v_tabIn (off := 64) (tgt := 65) C dX4_posterTold_1 (by decide) (by decide) rfl (by decide) ?_
    refine v_aload_n C dX4_posterTold_65 rfl rfl ?_
    refine v_iload_n C dX4_posterTold_66 rfl rfl ?_
    refine v_callVi (n := 1) (as := [.int (nI p)]) C (c_letters _ Z p (nlO g p) (wdO g) g hp (IvM_nl hI hp).1 (IvM_nl hI hp).2 (IvM_W hI)) (gv (tg4 164 rfl rfl) (tg4 166 rfl rfl) (tg0 34 rfl rfl) (tg1 6 rfl rfl) (tg4 167 rfl rfl)) (by decide +kernel) ⟨Nat.le_of_ble_eq_true rfl, Nat.le_of_ble_eq_true rfl⟩ rfl cx_M rfl rfl (Nat.le_of_ble_eq_true rfl) dX4_posterTold_67 ⟨Nat.le_of_ble_eq_true rfl, Nat.le_of_ble_eq_true rfl⟩ (fun r67 g67 hp67 => ?_)
    obtain ⟨rfl, hg67⟩ := hp67
    rw [hg67]
    exact ret _ _ _ _ dX4_posterTold_70 ⟨rfl, rfl⟩
  · refine v_tabIn (off := 70) (tgt := 71) C dX4_posterTold_1 (by decide) (by decide) rfl (by decide) ?_
    refine v_aload_n C dX4_posterTold_71 rfl rfl ?_
    refine v_get C inG4 rfl 15 (by decide) (tg3 210 rfl rfl) rfl cx_M rfl dX4_posterTold_72 ?_
    refine v_iload_n C dX4_posterTold_75 rfl rfl ?_
    refine v_ialdN (a := p) C cxA15 ⟨hp, by decide⟩ dX4_posterTold_76 ?_
    exact ret _ _ _ _ dX4_posterTold_77 ⟨rfl, rfl⟩
  · refine v_tabIn (off := 77) (tgt := 78) C dX4_posterTold_1 (by decide) (by decide) rfl (by decide) ?_
    refine v_aload_n C dX4_posterTold_78 rfl rfl ?_
    refine v_iload_n C dX4_posterTold_79 rfl rfl ?_
    refine v_callVi (n := 1) (as := [.int (nI p)]) C (c_flawsOf _ Z p (nlO g p) g hp (IvM_nl hI hp).1 (IvM_nl hI hp).2) (gv (tg4 135 rfl rfl) (tg4 137 rfl rfl) (tg0 30 rfl rfl) (tg1 6 rfl rfl) (tg4 138 rfl rfl)) (by decide +kernel) ⟨Nat.le_of_ble_eq_true rfl, Nat.le_of_ble_eq_true rfl⟩ rfl cx_M rfl rfl (Nat.le_of_ble_eq_true rfl) dX4_posterTold_80 ⟨Nat.le_of_ble_eq_true rfl, Nat.le_of_ble_eq_true rfl⟩ (fun r80 g80 hp80 => ?_)
    obtain ⟨rfl, hg80⟩ := hp80
    rw [hg80]
    exact ret _ _ _ _ dX4_posterTold_83 ⟨rfl, rfl⟩
  · refine v_tabIn (off := 83) (tgt := 84) C dX4_posterTold_1 (by decide) (by decide) rfl (by decide) ?_
    refine v_aload_n C dX4_posterTold_84 rfl rfl ?_
    refine v_get C inG4 rfl 16 (by decide) (tg3 211 rfl rfl) rfl cx_M rfl dX4_posterTold_85 ?_
    refine v_iload_n C dX4_posterTold_88 rfl rfl ?_
    refine v_ialdN (a := p) C cxA16 ⟨hp, by decide⟩ dX4_posterTold_89 ?_
    exact ret _ _ _ _ dX4_posterTold_90 ⟨rfl, rfl⟩
  · refine v_tabOut (tgt := 91) C dX4_posterTold_1 (Or.inr (by decide)) (by decide) ?_
    refine v_aload_n C dX4_posterTold_91 rfl rfl ?_
    refine v_iload_n C dX4_posterTold_92 rfl rfl ?_
    refine v_callVi (n := 1) (as := [.int (nI p)]) C (c_proof _ Z p (nlO g p) (iz (g 12 p)) (wdO g) g hp (IvM_nl hI hp).1 (IvM_nl hI hp).2 (IvM_W hI) (IvM_t hI hp).2 (IvM_t hI hp).1 (IvM_F hI hp) (hI.2.2.2.2.2.1 p hp)) (gv (tg4 131 rfl rfl) (tg4 133 rfl rfl) (tg0 29 rfl rfl) (tg1 6 rfl rfl) (tg4 134 rfl rfl)) (by decide +kernel) ⟨Nat.le_of_ble_eq_true rfl, Nat.le_of_ble_eq_true rfl⟩ rfl cx_M rfl rfl (Nat.le_of_ble_eq_true rfl) dX4_posterTold_93 ⟨Nat.le_of_ble_eq_true rfl, Nat.le_of_ble_eq_true rfl⟩ (fun r93 g93 hp93 => ?_)
    obtain ⟨rfl, hg93⟩ := hp93
    rw [hg93]
    exact ret _ _ _ _ dX4_posterTold_96 ⟨rfl, rfl⟩
set_option maxRecDepth 100000 in
theorem c_told (l : Launch) (Z : Zc) (p v : Int32) (g : MG) (hI : IvM g) : MI l yX4_told cX4_told 3 (some .int) (rmz 4 81 0 0) Z [.ref (Z.ad 0), .int p, .int v] g (PM g (cdTold g p v) (toldO g (iz p) (iz v)) (g)) := by
  refine ent_i (own := RX4) (lo := [some (.ref (Z.ad 0)), some (.int p), some (.int v)]) (by decide) rfl (by simp [lg_sl, Value.category]) rfl (fun P hl C ret => ?_)
  obtain ⟨⟨nf, hf5, hnf⟩, ⟨np, hp6, hnp⟩, hot, hnl, htn, his, hwd, htk⟩ := id hI
  have enf : nfO g = nf := by unfold nfO; rw [hnf]; exact iz_nI (by omega)
  have enp : npO g = np := by unfold npO; rw [hnp]; exact iz_nI (by omega)
  refine v_aload_n C dX4_told_0 rfl rfl ?_
  refine v_iconst (v := 0) C dX4_told_1 (by decide) ?_
  refine v_put C inG4 rfl tyX4 tyX4_ok nmX4 0 (by decide) (tg3 195 rfl rfl) rfl rfl (ty := .int) rfl rfl rfl cx_M (Nat.le_of_ble_eq_true rfl) rfl (by omega) cx_M dX4_told_2 ?_
  refine v_aload_n C dX4_told_5 rfl rfl ?_
  refine v_iload_n C dX4_told_6 rfl rfl ?_
  refine v_callVi (n := 1) (as := [.int p]) C (c_isPoster _ Z np p (wr g 0 0 0) hnp hp6) (gv (tg4 87 rfl rfl) (tg4 89 rfl rfl) (tg0 22 rfl rfl) (tg1 6 rfl rfl) (tg4 90 rfl rfl)) (by decide +kernel) ⟨Nat.le_of_ble_eq_true rfl, Nat.le_of_ble_eq_true rfl⟩ rfl cx_M rfl rfl (Nat.le_of_ble_eq_true rfl) dX4_told_7 ⟨Nat.le_of_ble_eq_true rfl, Nat.le_of_ble_eq_true rfl⟩ (fun r7 g7 hp7 => ?_)
  obtain ⟨rfl, hg7⟩ := hp7
  rw [hg7]
  refine v_if_eq (tgt := 32) C dX4_told_10 (by decide) (fun h10 => ?_) (fun h10 => ?_)
  · have k10 := bI_0.mp h10
    refine v_aload_n C dX4_told_32 rfl rfl ?_
    refine v_iconst (v := 1) C dX4_told_33 (by decide) ?_
    refine v_callVi (n := 1) (as := [.int 1]) C (c_no _ Z 1 (wr g 0 0 0)) (gv (tg4 48 rfl rfl) (tg4 50 rfl rfl) (tg0 20 rfl rfl) (tg1 6 rfl rfl) (tg4 51 rfl rfl)) (by decide +kernel) ⟨Nat.le_of_ble_eq_true rfl, Nat.le_of_ble_eq_true rfl⟩ rfl cx_M rfl rfl (Nat.le_of_ble_eq_true rfl) dX4_told_34 ⟨Nat.le_of_ble_eq_true rfl, Nat.le_of_ble_eq_true rfl⟩ (fun r34 g34 hp34 => ?_)
    obtain ⟨rfl, hg34⟩ := hp34
    rw [hg34]
    exact ret _ _ _ _ dX4_told_37 (PM.no (k := 1) (by unfold cdTold; rw [enp, if_pos (Or.inl k10)]) (by decide) rfl (fun j h1 h2 => wr_ne _ _ _ _ (Or.inr (by omega))) (fun q h1 h2 => wr_row _ _ _ _ (by omega)) (fun q hq => wr_row _ _ _ _ (by omega)))
  · have k10 := bI_1.mp h10
    refine v_iload_n C dX4_told_13 rfl rfl ?_
    refine v_iconst (v := 0) C dX4_told_14 (by decide) ?_
    refine v_bipush (v := 7) C dX4_told_15 (by decide) ?_
    refine v_callSi (n := 3) (as := [.int v, .int 0, .int 7]) C (c_isIn _ Z v 0 7 (wr g 0 0 0)) (gs (tg4 45 rfl rfl) (tg4 46 rfl rfl) (tg1 6 rfl rfl) (tg4 47 rfl rfl)) (by decide +kernel) ⟨Nat.le_of_ble_eq_true rfl, Nat.le_of_ble_eq_true rfl⟩ rfl rfl (Nat.le_of_ble_eq_true rfl) dX4_told_17 ⟨Nat.le_of_ble_eq_true rfl, Nat.le_of_ble_eq_true rfl⟩ (fun r17 g17 hp17 => ?_)
    obtain ⟨rfl, hg17⟩ := hp17
    rw [hg17]
    refine v_if_eq (tgt := 32) C dX4_told_20 (by decide) (fun h20 => ?_) (fun h20 => ?_)
    · have k20 := bI_0.mp h20
      refine v_aload_n C dX4_told_32 rfl rfl ?_
      refine v_iconst (v := 1) C dX4_told_33 (by decide) ?_
      refine v_callVi (n := 1) (as := [.int 1]) C (c_no _ Z 1 (wr g 0 0 0)) (gv (tg4 48 rfl rfl) (tg4 50 rfl rfl) (tg0 20 rfl rfl) (tg1 6 rfl rfl) (tg4 51 rfl rfl)) (by decide +kernel) ⟨Nat.le_of_ble_eq_true rfl, Nat.le_of_ble_eq_true rfl⟩ rfl cx_M rfl rfl (Nat.le_of_ble_eq_true rfl) dX4_told_34 ⟨Nat.le_of_ble_eq_true rfl, Nat.le_of_ble_eq_true rfl⟩ (fun r34 g34 hp34 => ?_)
      obtain ⟨rfl, hg34⟩ := hp34
      rw [hg34]
      exact ret _ _ _ _ dX4_told_37 (PM.no (k := 1) (by unfold cdTold; rw [enp, if_pos (Or.inr k20)]) (by decide) rfl (fun j h1 h2 => wr_ne _ _ _ _ (Or.inr (by omega))) (fun q h1 h2 => wr_row _ _ _ _ (by omega)) (fun q hq => wr_row _ _ _ _ (by omega)))
    · have k20 := bI_1.mp h20
      have hcd : cdTold g p v = 0 := by unfold cdTold; rw [enp, if_neg (by rw [k10, k20]; decide)]
      obtain ⟨a, ha, rfl⟩ := isN_ex k10
      obtain ⟨c, hc, rfl⟩ := inB_ex (n := 7) (by decide) k20
      have ea : iz (nI a) = a := iz_nI (by omega)
      have ec : iz (nI c) = c := iz_nI (by omega)
      refine v_aload_n C dX4_told_23 rfl rfl ?_
      refine v_iload_n C dX4_told_24 rfl rfl ?_
      refine v_iload_n C dX4_told_25 rfl rfl ?_
      refine v_callVi (n := 2) (as := [.int (nI a), .int (nI c)]) C (c_posterTold _ Z a c (wr g 0 0 0) (IvM_eq hI rfl rfl (fun k h1 h2 => wr_row _ _ _ _ (by omega))) (by omega) hc) (gv (tg4 160 rfl rfl) (tg4 162 rfl rfl) (tg0 33 rfl rfl) (tg1 6 rfl rfl) (tg4 163 rfl rfl)) (by decide +kernel) ⟨Nat.le_of_ble_eq_true rfl, Nat.le_of_ble_eq_true rfl⟩ rfl cx_M rfl rfl (Nat.le_of_ble_eq_true rfl) dX4_told_26 ⟨Nat.le_of_ble_eq_true rfl, Nat.le_of_ble_eq_true rfl⟩ (fun r26 g26 hp26 => ?_)
      obtain ⟨hr26, hg26⟩ := hp26
      rw [hg26]
      refine v_goto (tgt := 37) C dX4_told_29 (by decide) ?_
      exact ret _ _ _ _ dX4_told_37 ⟨by rw [hcd]; rfl, fun _ => by rw [ea, ec]; exact hr26, RE.of (fun j h1 h2 => wr_ne _ _ _ _ (Or.inr (by omega))) (fun q h1 h2 => wr_row _ _ _ _ (by omega)), fun q hq => wr_row _ _ _ _ (by omega)⟩
set_option maxRecDepth 100000 in
theorem c_lineTold (l : Launch) (Z : Zc) (p k : Nat) (v : Int32) (g : MG) (hI : IvM g) (hp : p < 6) (hk : k < nlO g p) : MI l yX4_lineTold cX4_lineTold 5 (some .int) (rmz 1 22 0 0) Z [.ref (Z.ad 0), .int (nI p), .int (nI k), .int v] g (fun r g' => r = ltoO g p k v ∧ g' = g) := by
  have hk4 := (IvM_nl hI hp).2
  refine ent_i (own := RX4) (lo := [some (.ref (Z.ad 0)), some (.int (nI p)), some (.int (nI k)), some (.int v), none]) (by decide) rfl (by simp [lg_sl, Value.category]) rfl (fun P hl C ret => ?_)
  refine v_iconst (v := 4) C dX4_lineTold_0 (by decide) ?_
  refine v_iload_n C dX4_lineTold_1 rfl rfl ?_
  refine v_imul C dX4_lineTold_2 ?_
  refine v_topi (y := nI (4 * p)) (by rw [show (4 : Int32) = nI 4 from rfl, nI_mul]) ?_
  refine v_iload_n C dX4_lineTold_3 rfl rfl ?_
  refine v_iadd C dX4_lineTold_4 ?_
  refine v_topi (y := nI (4 * p + k)) (nI_add _ _) ?_
  refine v_istore (lo' := [some (.ref (Z.ad 0)), some (.int (nI p)), some (.int (nI k)), some (.int v), some (.int (nI (4 * p + k)))]) C dX4_lineTold_5 (Nat.le_of_ble_eq_true rfl) rfl rfl ?_
  refine v_iload_n C dX4_lineTold_7 rfl rfl ?_
  refine v_if_ne (tgt := 22) C dX4_lineTold_8 (by decide) (fun h8 => ?_) (fun h8 => ?_)
  · refine v_aload_n C dX4_lineTold_22 rfl rfl ?_
    refine v_get C inG4 rfl 15 (by decide) (tg3 210 rfl rfl) rfl cx_M rfl dX4_lineTold_23 ?_
    refine v_iload_n C dX4_lineTold_26 rfl rfl ?_
    refine v_ialdN (a := p) C cxA15 ⟨hp, by decide⟩ dX4_lineTold_27 ?_
    refine v_if_ne (tgt := 33) C dX4_lineTold_28 (by decide) (fun h28 => ?_) (fun h28 => ?_)
    · refine v_iload_n C dX4_lineTold_33 rfl rfl ?_
      refine v_iconst (v := 1) C dX4_lineTold_34 (by decide) ?_
      refine v_icmp_ne (tgt := 48) C dX4_lineTold_35 (by decide) (fun h35 => ?_) (fun h35 => ?_)
      · refine v_iload_n C dX4_lineTold_48 rfl rfl ?_
        refine v_iconst (v := 2) C dX4_lineTold_49 (by decide) ?_
        refine v_icmp_ne (tgt := 63) C dX4_lineTold_50 (by decide) (fun h50 => ?_) (fun h50 => ?_)
        · refine v_aload_n C dX4_lineTold_63 rfl rfl ?_
          refine v_get C inG4 rfl 20 (by decide) (tg3 215 rfl rfl) rfl cx_M rfl dX4_lineTold_64 ?_
          refine v_iload C dX4_lineTold_67 rfl ?_
          refine v_ialdN (a := (4 * p + k)) C cxA20 (by omega) dX4_lineTold_69 ?_
          exact ret _ _ _ _ dX4_lineTold_70 ⟨by simp [ltoO, h8, h28, h35, h50], rfl⟩
        · refine v_aload_n C dX4_lineTold_53 rfl rfl ?_
          refine v_get C inG4 rfl 19 (by decide) (tg3 214 rfl rfl) rfl cx_M rfl dX4_lineTold_54 ?_
          refine v_iload C dX4_lineTold_57 rfl ?_
          refine v_ialdN (a := (4 * p + k)) C cxA19 (by omega) dX4_lineTold_59 ?_
          refine v_goto (tgt := 70) C dX4_lineTold_60 (by decide) ?_
          exact ret _ _ _ _ dX4_lineTold_70 ⟨by simp [ltoO, h8, h28, h35, h50], rfl⟩
      · refine v_aload_n C dX4_lineTold_38 rfl rfl ?_
        refine v_get C inG4 rfl 18 (by decide) (tg3 213 rfl rfl) rfl cx_M rfl dX4_lineTold_39 ?_
        refine v_iload C dX4_lineTold_42 rfl ?_
        refine v_ialdN (a := (4 * p + k)) C cxA18 (by omega) dX4_lineTold_44 ?_
        refine v_goto (tgt := 70) C dX4_lineTold_45 (by decide) ?_
        exact ret _ _ _ _ dX4_lineTold_70 ⟨by simp [ltoO, h8, h28, h35], rfl⟩
    · refine v_iconst (v := (-1)) C dX4_lineTold_31 (by decide) ?_
      exact ret _ _ _ _ dX4_lineTold_32 ⟨by simp [ltoO, h8, h28], rfl⟩
  · refine v_aload_n C dX4_lineTold_11 rfl rfl ?_
    refine v_get C inG4 rfl 17 (by decide) (tg3 212 rfl rfl) rfl cx_M rfl dX4_lineTold_12 ?_
    refine v_iload C dX4_lineTold_15 rfl ?_
    refine v_ialdN (a := (4 * p + k)) C cxA17 (by omega) dX4_lineTold_17 ?_
    refine v_topi (y := nI (wdO g (4 * p + k))) (IvM_W hI _ (by omega)).1 ?_
    refine v_callSi (n := 1) (as := [.int (nI (wdO g (4 * p + k)))]) C (c_size _ Z (wdO g (4 * p + k)) g (IvM_W hI _ (by omega)).2) (gs (tg4 108 rfl rfl) (tg4 109 rfl rfl) (tg1 6 rfl rfl) (tg4 110 rfl rfl)) (by decide +kernel) ⟨Nat.le_of_ble_eq_true rfl, Nat.le_of_ble_eq_true rfl⟩ rfl rfl (Nat.le_of_ble_eq_true rfl) dX4_lineTold_18 ⟨Nat.le_of_ble_eq_true rfl, Nat.le_of_ble_eq_true rfl⟩ (fun r18 g18 hp18 => ?_)
    obtain ⟨rfl, hg18⟩ := hp18
    rw [hg18]
    exact ret _ _ _ _ dX4_lineTold_21 ⟨by simp [ltoO, h8], rfl⟩
set_option maxRecDepth 100000 in
theorem c_about (l : Launch) (Z : Zc) (p k v : Int32) (g : MG) (hI : IvM g) : MI l yX4_about cX4_about 4 (some .int) (rmz 3 60 0 0) Z [.ref (Z.ad 0), .int p, .int k, .int v] g (PM g (cdAbout g p k v) (ltoO g (iz p) (iz k) v) (g)) := by
  refine ent_i (own := RX4) (lo := [some (.ref (Z.ad 0)), some (.int p), some (.int k), some (.int v)]) (by decide) rfl (by simp [lg_sl, Value.category]) rfl (fun P hl C ret => ?_)
  obtain ⟨⟨nf, hf5, hnf⟩, ⟨np, hp6, hnp⟩, hot, hnl, htn, his, hwd, htk⟩ := id hI
  have enf : nfO g = nf := by unfold nfO; rw [hnf]; exact iz_nI (by omega)
  have enp : npO g = np := by unfold npO; rw [hnp]; exact iz_nI (by omega)
  refine v_aload_n C dX4_about_0 rfl rfl ?_
  refine v_iconst (v := 0) C dX4_about_1 (by decide) ?_
  refine v_put C inG4 rfl tyX4 tyX4_ok nmX4 0 (by decide) (tg3 195 rfl rfl) rfl rfl (ty := .int) rfl rfl rfl cx_M (Nat.le_of_ble_eq_true rfl) rfl (by omega) cx_M dX4_about_2 ?_
  refine v_aload_n C dX4_about_5 rfl rfl ?_
  refine v_iload_n C dX4_about_6 rfl rfl ?_
  refine v_callVi (n := 1) (as := [.int p]) C (c_isPoster _ Z np p (wr g 0 0 0) hnp hp6) (gv (tg4 87 rfl rfl) (tg4 89 rfl rfl) (tg0 22 rfl rfl) (tg1 6 rfl rfl) (tg4 90 rfl rfl)) (by decide +kernel) ⟨Nat.le_of_ble_eq_true rfl, Nat.le_of_ble_eq_true rfl⟩ rfl cx_M rfl rfl (Nat.le_of_ble_eq_true rfl) dX4_about_7 ⟨Nat.le_of_ble_eq_true rfl, Nat.le_of_ble_eq_true rfl⟩ (fun r7 g7 hp7 => ?_)
  obtain ⟨rfl, hg7⟩ := hp7
  rw [hg7]
  refine v_if_eq (tgt := 48) C dX4_about_10 (by decide) (fun h10 => ?_) (fun h10 => ?_)
  · have k10 := bI_0.mp h10
    refine v_aload_n C dX4_about_48 rfl rfl ?_
    refine v_iconst (v := 1) C dX4_about_49 (by decide) ?_
    refine v_callVi (n := 1) (as := [.int 1]) C (c_no _ Z 1 (wr g 0 0 0)) (gv (tg4 48 rfl rfl) (tg4 50 rfl rfl) (tg0 20 rfl rfl) (tg1 6 rfl rfl) (tg4 51 rfl rfl)) (by decide +kernel) ⟨Nat.le_of_ble_eq_true rfl, Nat.le_of_ble_eq_true rfl⟩ rfl cx_M rfl rfl (Nat.le_of_ble_eq_true rfl) dX4_about_50 ⟨Nat.le_of_ble_eq_true rfl, Nat.le_of_ble_eq_true rfl⟩ (fun r50 g50 hp50 => ?_)
    obtain ⟨rfl, hg50⟩ := hp50
    rw [hg50]
    exact ret _ _ _ _ dX4_about_53 (PM.no (k := 1) (by unfold cdAbout; rw [enp, if_pos (Or.inl k10)]) (by decide) rfl (fun j h1 h2 => wr_ne _ _ _ _ (Or.inr (by omega))) (fun q h1 h2 => wr_row _ _ _ _ (by omega)) (fun q hq => wr_row _ _ _ _ (by omega)))
  · have k10 := bI_1.mp h10
    obtain ⟨a, ha, rfl⟩ := isN_ex k10
    have ea : iz (nI a) = a := iz_nI (by omega)
    refine v_iload_n C dX4_about_13 rfl rfl ?_
    refine v_iconst (v := 0) C dX4_about_14 (by decide) ?_
    refine v_aload_n C dX4_about_15 rfl rfl ?_
    refine v_get C inG4 rfl 14 (by decide) (tg3 209 rfl rfl) rfl cx_M rfl dX4_about_16 ?_
    refine v_iload_n C dX4_about_19 rfl rfl ?_
    refine v_ialdN (a := a) C cxA14 (by omega) dX4_about_20 ?_
    refine v_topi (y := nI (nlO g a)) (show _ = _ from (IvM_nl hI (show a < 6 by omega)).1) ?_
    refine v_iconst (v := 1) C dX4_about_21 (by decide) ?_
    refine v_isub C dX4_about_22 ?_
    refine v_callSi (n := 3) (as := [.int k, .int 0, .int ((nI (nlO g a)) - 1)]) C (c_isIn _ Z k 0 (nI (nlO g a) - 1) (wr g 0 0 0)) (gs (tg4 45 rfl rfl) (tg4 46 rfl rfl) (tg1 6 rfl rfl) (tg4 47 rfl rfl)) (by decide +kernel) ⟨Nat.le_of_ble_eq_true rfl, Nat.le_of_ble_eq_true rfl⟩ rfl rfl (Nat.le_of_ble_eq_true rfl) dX4_about_23 ⟨Nat.le_of_ble_eq_true rfl, Nat.le_of_ble_eq_true rfl⟩ (fun r23 g23 hp23 => ?_)
    obtain ⟨rfl, hg23⟩ := hp23
    rw [hg23]
    refine v_topi (y := bI (isN (nlO g a) k)) (by rw [inB_isN (by have := (IvM_nl hI (show a < 6 by omega)).2; omega)]) ?_
    refine v_if_eq (tgt := 48) C dX4_about_26 (by decide) (fun h26 => ?_) (fun h26 => ?_)
    · have k26 := bI_0.mp h26
      refine v_aload_n C dX4_about_48 rfl rfl ?_
      refine v_iconst (v := 1) C dX4_about_49 (by decide) ?_
      refine v_callVi (n := 1) (as := [.int 1]) C (c_no _ Z 1 (wr g 0 0 0)) (gv (tg4 48 rfl rfl) (tg4 50 rfl rfl) (tg0 20 rfl rfl) (tg1 6 rfl rfl) (tg4 51 rfl rfl)) (by decide +kernel) ⟨Nat.le_of_ble_eq_true rfl, Nat.le_of_ble_eq_true rfl⟩ rfl cx_M rfl rfl (Nat.le_of_ble_eq_true rfl) dX4_about_50 ⟨Nat.le_of_ble_eq_true rfl, Nat.le_of_ble_eq_true rfl⟩ (fun r50 g50 hp50 => ?_)
      obtain ⟨rfl, hg50⟩ := hp50
      rw [hg50]
      exact ret _ _ _ _ dX4_about_53 (PM.no (k := 1) (by unfold cdAbout; rw [ea, if_pos (Or.inr (Or.inl k26))]) (by decide) rfl (fun j h1 h2 => wr_ne _ _ _ _ (Or.inr (by omega))) (fun q h1 h2 => wr_row _ _ _ _ (by omega)) (fun q hq => wr_row _ _ _ _ (by omega)))
    · have k26 := bI_1.mp h26
      refine v_iload_n C dX4_about_29 rfl rfl ?_
      refine v_iconst (v := 0) C dX4_about_30 (by decide) ?_
      refine v_iconst (v := 3) C dX4_about_31 (by decide) ?_
      refine v_callSi (n := 3) (as := [.int v, .int 0, .int 3]) C (c_isIn _ Z v 0 3 (wr g 0 0 0)) (gs (tg4 45 rfl rfl) (tg4 46 rfl rfl) (tg1 6 rfl rfl) (tg4 47 rfl rfl)) (by decide +kernel) ⟨Nat.le_of_ble_eq_true rfl, Nat.le_of_ble_eq_true rfl⟩ rfl rfl (Nat.le_of_ble_eq_true rfl) dX4_about_32 ⟨Nat.le_of_ble_eq_true rfl, Nat.le_of_ble_eq_true rfl⟩ (fun r32 g32 hp32 => ?_)
      obtain ⟨rfl, hg32⟩ := hp32
      rw [hg32]
      refine v_if_eq (tgt := 48) C dX4_about_35 (by decide) (fun h35 => ?_) (fun h35 => ?_)
      · have k35 := bI_0.mp h35
        refine v_aload_n C dX4_about_48 rfl rfl ?_
        refine v_iconst (v := 1) C dX4_about_49 (by decide) ?_
        refine v_callVi (n := 1) (as := [.int 1]) C (c_no _ Z 1 (wr g 0 0 0)) (gv (tg4 48 rfl rfl) (tg4 50 rfl rfl) (tg0 20 rfl rfl) (tg1 6 rfl rfl) (tg4 51 rfl rfl)) (by decide +kernel) ⟨Nat.le_of_ble_eq_true rfl, Nat.le_of_ble_eq_true rfl⟩ rfl cx_M rfl rfl (Nat.le_of_ble_eq_true rfl) dX4_about_50 ⟨Nat.le_of_ble_eq_true rfl, Nat.le_of_ble_eq_true rfl⟩ (fun r50 g50 hp50 => ?_)
        obtain ⟨rfl, hg50⟩ := hp50
        rw [hg50]
        exact ret _ _ _ _ dX4_about_53 (PM.no (k := 1) (by unfold cdAbout; rw [if_pos (Or.inr (Or.inr k35))]) (by decide) rfl (fun j h1 h2 => wr_ne _ _ _ _ (Or.inr (by omega))) (fun q h1 h2 => wr_row _ _ _ _ (by omega)) (fun q hq => wr_row _ _ _ _ (by omega)))
      · have k35 := bI_1.mp h35
        have hcd : cdAbout g (nI a) k v = 0 := by unfold cdAbout; rw [enp, ea, if_neg (by rw [k10, k26, k35]; decide)]
        obtain ⟨c, hc, rfl⟩ := isN_ex k26
        have ec : iz (nI c) = c := iz_nI (by have := (IvM_nl hI (show a < 6 by omega)).2; omega)
        refine v_aload_n C dX4_about_38 rfl rfl ?_
        refine v_iload_n C dX4_about_39 rfl rfl ?_
        refine v_iload_n C dX4_about_40 rfl rfl ?_
        refine v_iload_n C dX4_about_41 rfl rfl ?_
        refine v_callVi (n := 3) (as := [.int (nI a), .int (nI c), .int v]) C (c_lineTold _ Z a c v (wr g 0 0 0) (IvM_eq hI rfl rfl (fun k h1 h2 => wr_row _ _ _ _ (by omega))) (by omega) hc) (gv (tg4 172 rfl rfl) (tg4 174 rfl rfl) (tg0 35 rfl rfl) (tg1 6 rfl rfl) (tg4 175 rfl rfl)) (by decide +kernel) ⟨Nat.le_of_ble_eq_true rfl, Nat.le_of_ble_eq_true rfl⟩ rfl cx_M rfl rfl (Nat.le_of_ble_eq_true rfl) dX4_about_42 ⟨Nat.le_of_ble_eq_true rfl, Nat.le_of_ble_eq_true rfl⟩ (fun r42 g42 hp42 => ?_)
        obtain ⟨hr42, hg42⟩ := hp42
        rw [hg42]
        refine v_goto (tgt := 53) C dX4_about_45 (by decide) ?_
        exact ret _ _ _ _ dX4_about_53 ⟨by rw [hcd]; rfl, fun _ => by rw [ea, ec]; exact hr42, RE.of (fun j h1 h2 => wr_ne _ _ _ _ (Or.inr (by omega))) (fun q h1 h2 => wr_row _ _ _ _ (by omega)), fun q hq => wr_row _ _ _ _ (by omega)⟩
set_option maxRecDepth 100000 in
theorem c_sum (l : Launch) (Z : Zc) (kx len m : Nat) (g : MG) (hk : cx Z.Y Z.ad Z.df g kx = some (.inl (Z.Y.1, len, .inl (g kx)))) (hm : m ≤ len) (hl31 : len < 2147483648) : MI l yX4_sum cX4_sum 4 (some .int) (rmz 0 0 0 0) Z [.ref (Z.ad kx), .int (nI m)] g (fun r g' => r = sumI (g kx) m ∧ g' = g) := by
  refine ent_i (own := RX4) (lo := [some (.ref (Z.ad kx)), some (.int (nI m)), none, none]) (by decide) rfl (by simp [lg_sl, Value.category]) rfl (fun P hl C ret => ?_)
  have loop : ∀ (n : Nat) (k : Nat), m - k < n → k ≤ m → V P (rmz 0 0 0 0) Z [some (.ref (Z.ad kx)), some (.int (nI m)), some (.int (sumI (g kx) k)), some (.int (nI k))] 4 [] g 0 0 := by
    intro n
    induction n with
    | zero => intro k hn hkm; exact absurd hn (Nat.not_lt_zero _)
    | succ n ih =>
      intro k hn hkm
      refine v_iload_n C dX4_sum_4 rfl rfl ?_
      refine v_iload_n C dX4_sum_5 rfl rfl ?_
      refine v_icmp_ge (tgt := 21) C dX4_sum_6 (by decide) (fun h6 => ?_) (fun h6 => ?_)
      · have hkn : k = m := Nat.le_antisymm hkm ((nI_leI (by omega) (by omega)).mp h6)
        subst hkn
        refine v_iload_n C dX4_sum_21 rfl rfl ?_
        exact ret _ _ _ _ dX4_sum_22 ⟨rfl, rfl⟩
      · have hkn : k < m := Nat.lt_of_not_le fun q => h6 ((nI_leI (by omega) (by omega)).mpr q)
        refine v_iload_n C dX4_sum_9 rfl rfl ?_
        refine v_aload_n C dX4_sum_10 rfl rfl ?_
        refine v_iload_n C dX4_sum_11 rfl rfl ?_
        refine v_ialdN (a := k) C hk ⟨by omega, hl31⟩ dX4_sum_12 ?_
        refine v_iadd C dX4_sum_13 ?_
        refine v_topi (y := sumI (g kx) (k + 1)) rfl ?_
        refine v_istore_n (lo' := [some (.ref (Z.ad kx)), some (.int (nI m)), some (.int (sumI (g kx) (k + 1))), some (.int (nI k))]) C dX4_sum_14 rfl (Nat.le_of_ble_eq_true rfl) rfl rfl ?_
        refine v_iinc (lo' := [some (.ref (Z.ad kx)), some (.int (nI m)), some (.int (sumI (g kx) (k + 1))), some (.int ((nI k) + 1))]) C dX4_sum_15 rfl rfl rfl rfl ?_
        refine v_lo (lo' := [some (.ref (Z.ad kx)), some (.int (nI m)), some (.int (sumI (g kx) (k + 1))), some (.int (nI (k + 1)))]) (by rw [← nI_1 k]) ?_
        refine v_goto (tgt := 4) C dX4_sum_18 (by decide) ?_
        exact ih (k + 1) (by omega) (by omega)
  refine v_iconst (v := 0) C dX4_sum_0 (by decide) ?_
  refine v_topi (y := sumI (g kx) 0) rfl ?_
  refine v_istore_n (lo' := [some (.ref (Z.ad kx)), some (.int (nI m)), some (.int (sumI (g kx) 0)), none]) C dX4_sum_1 rfl (Nat.le_of_ble_eq_true rfl) rfl rfl ?_
  refine v_iconst (v := 0) C dX4_sum_2 (by decide) ?_
  refine v_topi (y := nI 0) rfl ?_
  refine v_istore_n (lo' := [some (.ref (Z.ad kx)), some (.int (nI m)), some (.int (sumI (g kx) 0)), some (.int (nI 0))]) C dX4_sum_3 rfl (Nat.le_of_ble_eq_true rfl) rfl rfl ?_
  exact loop (m + 1) 0 (by omega) (by omega)
set_option maxRecDepth 100000 in
theorem c_counted (l : Launch) (Z : Zc) (w np : Nat) (g : MG) (hnp : g 0 2 = nI np) (hp6 : np ≤ 6) (hw : w < 7) : MI l yX4_counted cX4_counted 2 (some .int) (rmz 1 23 0 0) Z [.ref (Z.ad 0), .int (nI w)] g (fun r g' => r = ctO g w ∧ g' = g) := by
  have enp : npO g = np := by unfold npO; rw [hnp]; exact iz_nI (by omega)
  refine ent_i (own := RX4) (lo := [some (.ref (Z.ad 0)), some (.int (nI w))]) (by decide) rfl (by simp [lg_sl, Value.category]) rfl (fun P hl C ret => ?_)
  refine v_iload_n C dX4_counted_0 rfl rfl ?_
  obtain rfl | rfl | rfl | rfl | rfl | rfl | rfl := (show w = 0 ∨ w = 1 ∨ w = 2 ∨ w = 3 ∨ w = 4 ∨ w = 5 ∨ w = 6 by omega)
  · refine v_tabIn (off := 39) (tgt := 40) C dX4_counted_1 (by decide) (by decide) rfl (by decide) ?_
    refine v_aload_n C dX4_counted_40 rfl rfl ?_
    refine v_get C inG4 rfl 1 (by decide) (tg3 196 rfl rfl) rfl cx_M rfl dX4_counted_41 ?_
    exact ret _ _ _ _ dX4_counted_44 ⟨rfl, rfl⟩
  · refine v_tabIn (off := 44) (tgt := 45) C dX4_counted_1 (by decide) (by decide) rfl (by decide) ?_
    refine v_aload_n C dX4_counted_45 rfl rfl ?_
    refine v_get C inG4 rfl 2 (by decide) (tg3 197 rfl rfl) rfl cx_M rfl dX4_counted_46 ?_
    exact ret _ _ _ _ dX4_counted_49 ⟨rfl, rfl⟩
  · refine v_tabIn (off := 49) (tgt := 50) C dX4_counted_1 (by decide) (by decide) rfl (by decide) ?_
    refine v_aload_n C dX4_counted_50 rfl rfl ?_
    refine v_get C inG4 rfl 15 (by decide) (tg3 210 rfl rfl) rfl cx_M rfl dX4_counted_51 ?_
    refine v_aload_n C dX4_counted_54 rfl rfl ?_
    refine v_get C inG4 rfl 2 (by decide) (tg3 197 rfl rfl) rfl cx_M rfl dX4_counted_55 ?_
    refine v_topi (y := nI np) hnp ?_
    refine v_callSi (n := 2) (as := [.ref (Z.ad 15), .int (nI np)]) C (c_sum _ Z 15 6 np g cxA15 hp6 (by decide)) (gs (tg4 184 rfl rfl) (tg4 185 rfl rfl) (tg1 6 rfl rfl) (tg4 186 rfl rfl)) (by decide +kernel) ⟨Nat.le_of_ble_eq_true rfl, Nat.le_of_ble_eq_true rfl⟩ rfl rfl (Nat.le_of_ble_eq_true rfl) dX4_counted_58 ⟨Nat.le_of_ble_eq_true rfl, Nat.le_of_ble_eq_true rfl⟩ (fun r58 g58 hp58 => ?_)
    obtain ⟨rfl, hg58⟩ := hp58
    rw [hg58]
    exact ret _ _ _ _ dX4_counted_61 ⟨by show sumI (g 15) np = sumI (g 15) (npO g); rw [enp], rfl⟩
  · refine v_tabIn (off := 61) (tgt := 62) C dX4_counted_1 (by decide) (by decide) rfl (by decide) ?_
    refine v_aload_n C dX4_counted_62 rfl rfl ?_
    refine v_get C inG4 rfl 3 (by decide) (tg3 198 rfl rfl) rfl cx_M rfl dX4_counted_63 ?_
    exact ret _ _ _ _ dX4_counted_66 ⟨rfl, rfl⟩
  · refine v_tabIn (off := 66) (tgt := 67) C dX4_counted_1 (by decide) (by decide) rfl (by decide) ?_
    refine v_aload_n C dX4_counted_67 rfl rfl ?_
    refine v_get C inG4 rfl 4 (by decide) (tg3 199 rfl rfl) rfl cx_M rfl dX4_counted_68 ?_
    exact ret _ _ _ _ dX4_counted_71 ⟨rfl, rfl⟩
  · refine v_tabIn (off := 71) (tgt := 72) C dX4_counted_1 (by decide) (by decide) rfl (by decide) ?_
    refine v_aload_n C dX4_counted_72 rfl rfl ?_
    refine v_get C inG4 rfl 6 (by decide) (tg3 201 rfl rfl) rfl cx_M rfl dX4_counted_73 ?_
    refine v_aload_n C dX4_counted_76 rfl rfl ?_
    refine v_get C inG4 rfl 6 (by decide) (tg3 201 rfl rfl) rfl cx_M rfl dX4_counted_77 ?_
    refine v_alen (v := 50) C cxA6 rfl dX4_counted_80 ?_
    refine v_topi (y := nI 50) rfl ?_
    refine v_callSi (n := 2) (as := [.ref (Z.ad 6), .int (nI 50)]) C (c_sum _ Z 6 50 50 g cxA6 (Nat.le_refl _) (by decide)) (gs (tg4 184 rfl rfl) (tg4 185 rfl rfl) (tg1 6 rfl rfl) (tg4 186 rfl rfl)) (by decide +kernel) ⟨Nat.le_of_ble_eq_true rfl, Nat.le_of_ble_eq_true rfl⟩ rfl rfl (Nat.le_of_ble_eq_true rfl) dX4_counted_81 ⟨Nat.le_of_ble_eq_true rfl, Nat.le_of_ble_eq_true rfl⟩ (fun r81 g81 hp81 => ?_)
    obtain ⟨rfl, hg81⟩ := hp81
    rw [hg81]
    exact ret _ _ _ _ dX4_counted_84 ⟨rfl, rfl⟩
  · refine v_tabOut (tgt := 85) C dX4_counted_1 (Or.inr (by decide)) (by decide) ?_
    refine v_aload_n C dX4_counted_85 rfl rfl ?_
    refine v_get C inG4 rfl 7 (by decide) (tg3 202 rfl rfl) rfl cx_M rfl dX4_counted_86 ?_
    refine v_aload_n C dX4_counted_89 rfl rfl ?_
    refine v_get C inG4 rfl 7 (by decide) (tg3 202 rfl rfl) rfl cx_M rfl dX4_counted_90 ?_
    refine v_alen (v := 50) C cxA7 rfl dX4_counted_93 ?_
    refine v_topi (y := nI 50) rfl ?_
    refine v_callSi (n := 2) (as := [.ref (Z.ad 7), .int (nI 50)]) C (c_sum _ Z 7 50 50 g cxA7 (Nat.le_refl _) (by decide)) (gs (tg4 184 rfl rfl) (tg4 185 rfl rfl) (tg1 6 rfl rfl) (tg4 186 rfl rfl)) (by decide +kernel) ⟨Nat.le_of_ble_eq_true rfl, Nat.le_of_ble_eq_true rfl⟩ rfl rfl (Nat.le_of_ble_eq_true rfl) dX4_counted_94 ⟨Nat.le_of_ble_eq_true rfl, Nat.le_of_ble_eq_true rfl⟩ (fun r94 g94 hp94 => ?_)
    obtain ⟨rfl, hg94⟩ := hp94
    rw [hg94]
    exact ret _ _ _ _ dX4_counted_97 ⟨rfl, rfl⟩
set_option maxRecDepth 100000 in
theorem c_count (l : Launch) (Z : Zc) (v : Int32) (g : MG) (hI : IvM g) : MI l yX4_count cX4_count 2 (some .int) (rmz 3 60 0 0) Z [.ref (Z.ad 0), .int v] g (PM g (cdCount v) (ctO g (iz v)) (g)) := by
  refine ent_i (own := RX4) (lo := [some (.ref (Z.ad 0)), some (.int v)]) (by decide) rfl (by simp [lg_sl, Value.category]) rfl (fun P hl C ret => ?_)
  obtain ⟨⟨nf, hf5, hnf⟩, ⟨np, hp6, hnp⟩, hot, hnl, htn, his, hwd, htk⟩ := id hI
  have enf : nfO g = nf := by unfold nfO; rw [hnf]; exact iz_nI (by omega)
  have enp : npO g = np := by unfold npO; rw [hnp]; exact iz_nI (by omega)
  refine v_aload_n C dX4_count_0 rfl rfl ?_
  refine v_iconst (v := 0) C dX4_count_1 (by decide) ?_
  refine v_put C inG4 rfl tyX4 tyX4_ok nmX4 0 (by decide) (tg3 195 rfl rfl) rfl rfl (ty := .int) rfl rfl rfl cx_M (Nat.le_of_ble_eq_true rfl) rfl (by omega) cx_M dX4_count_2 ?_
  refine v_iload_n C dX4_count_5 rfl rfl ?_
  refine v_iconst (v := 0) C dX4_count_6 (by decide) ?_
  refine v_bipush (v := 6) C dX4_count_7 (by decide) ?_
  refine v_callSi (n := 3) (as := [.int v, .int 0, .int 6]) C (c_isIn _ Z v 0 6 (wr g 0 0 0)) (gs (tg4 45 rfl rfl) (tg4 46 rfl rfl) (tg1 6 rfl rfl) (tg4 47 rfl rfl)) (by decide +kernel) ⟨Nat.le_of_ble_eq_true rfl, Nat.le_of_ble_eq_true rfl⟩ rfl rfl (Nat.le_of_ble_eq_true rfl) dX4_count_9 ⟨Nat.le_of_ble_eq_true rfl, Nat.le_of_ble_eq_true rfl⟩ (fun r9 g9 hp9 => ?_)
  obtain ⟨rfl, hg9⟩ := hp9
  rw [hg9]
  refine v_if_eq (tgt := 23) C dX4_count_12 (by decide) (fun h12 => ?_) (fun h12 => ?_)
  · have k12 := bI_0.mp h12
    refine v_aload_n C dX4_count_23 rfl rfl ?_
    refine v_iconst (v := 1) C dX4_count_24 (by decide) ?_
    refine v_callVi (n := 1) (as := [.int 1]) C (c_no _ Z 1 (wr g 0 0 0)) (gv (tg4 48 rfl rfl) (tg4 50 rfl rfl) (tg0 20 rfl rfl) (tg1 6 rfl rfl) (tg4 51 rfl rfl)) (by decide +kernel) ⟨Nat.le_of_ble_eq_true rfl, Nat.le_of_ble_eq_true rfl⟩ rfl cx_M rfl rfl (Nat.le_of_ble_eq_true rfl) dX4_count_25 ⟨Nat.le_of_ble_eq_true rfl, Nat.le_of_ble_eq_true rfl⟩ (fun r25 g25 hp25 => ?_)
    obtain ⟨rfl, hg25⟩ := hp25
    rw [hg25]
    exact ret _ _ _ _ dX4_count_28 (PM.no (k := 1) (by unfold cdCount; rw [if_pos k12]) (by decide) rfl (fun j h1 h2 => wr_ne _ _ _ _ (Or.inr (by omega))) (fun q h1 h2 => wr_row _ _ _ _ (by omega)) (fun q hq => wr_row _ _ _ _ (by omega)))
  · have k12 := bI_1.mp h12
    have hcd : cdCount v = 0 := by unfold cdCount; rw [if_neg (by rw [k12]; decide)]
    obtain ⟨c, hc, rfl⟩ := inB_ex (n := 6) (by decide) k12
    have ec : iz (nI c) = c := iz_nI (by omega)
    refine v_aload_n C dX4_count_15 rfl rfl ?_
    refine v_iload_n C dX4_count_16 rfl rfl ?_
    refine v_callVi (n := 1) (as := [.int (nI c)]) C (c_counted _ Z c np (wr g 0 0 0) hnp hp6 hc) (gv (tg4 180 rfl rfl) (tg4 182 rfl rfl) (tg0 36 rfl rfl) (tg1 6 rfl rfl) (tg4 183 rfl rfl)) (by decide +kernel) ⟨Nat.le_of_ble_eq_true rfl, Nat.le_of_ble_eq_true rfl⟩ rfl cx_M rfl rfl (Nat.le_of_ble_eq_true rfl) dX4_count_17 ⟨Nat.le_of_ble_eq_true rfl, Nat.le_of_ble_eq_true rfl⟩ (fun r17 g17 hp17 => ?_)
    obtain ⟨hr17, hg17⟩ := hp17
    rw [hg17]
    refine v_goto (tgt := 28) C dX4_count_20 (by decide) ?_
    exact ret _ _ _ _ dX4_count_28 ⟨by rw [hcd]; rfl, fun _ => by rw [ec]; exact hr17, RE.of (fun j h1 h2 => wr_ne _ _ _ _ (Or.inr (by omega))) (fun q h1 h2 => wr_row _ _ _ _ (by omega)), fun q hq => wr_row _ _ _ _ (by omega)⟩
end
section
/-! THE REFERENCE: would, next, advise, lasts -/
def plO (g : MG) (p : Nat) : Option (List (Nat × TS) × (Nat → Int32)) := plM g p (nlO g p) (nfO g) (wdO g)
def prP (g : MG) (p : Nat) : Int32 := prT g (wdO g) p (nlO g p) (iz (g 12 p)) (plO g p)
theorem okE_A (b o : Nat → Int32) {nf : Nat} (h5 : nf ≤ 5) : okE (okA b o) (okA b o) nf := fun c mo mo' _ hR f k x hf hk _ => by unfold okA; rw [(hR (10 * f + k) (by omega)).1]
theorem Rm_0 (g g' : MG) : Rm 0 (moZ g) (moZ g') := fun j hj => by unfold moZ; rw [if_pos hj, if_pos hj]; exact ⟨rfl, 0, Nat.le_refl 0, rfl⟩
theorem plM_fr {g g1 : MG} (h : frP g g1) {p nl nf : Nat} (wd : Nat → Nat) (h5 : nf ≤ 5) (h4 : nl ≤ 4) (hot : otI (g 9)) : plE (plM g p nl nf wd) (plM g1 p nl nf wd) := by
  unfold plM
  rw [h.1 15 (by omega) (by decide), h.1 6 (by omega) (by decide), h.1 7 (by omega) (by decide), h.1 9 (by omega) (by decide), h.1 5 (by omega) (by decide), h.1 13 (by omega) (by decide)]
  split
  · exact trivial
  · exact plA_cong h5 hot (okE_A _ _ h5) _ _ _ _ 0 (Rm_0 g g1) (by rw [wds_len]; omega)
theorem plE_wd {o o' : Option (List (Nat × TS) × (Nat → Int32))} (h : plE o o') : wdF o' = wdF o := by
  cases o <;> cases o' <;> first | rfl | exact h.elim | (show flS _ = flS _; rw [h.1])
theorem plE_pr {g g1 : MG} (hf : frP g g1) {o o' : Option (List (Nat × TS) × (Nat → Int32))} (h : plE o o') (wd : Nat → Nat) (p nl t : Nat) : prT g1 wd p nl t o' = prT g wd p nl t o := by
  cases o <;> cases o' <;> first | rfl | exact h.elim | (unfold prT; rw [hf.1 5 (by omega) (by decide), hf.1 10 (by omega) (by decide), hf.1 11 (by omega) (by decide)]; simp only [h.1])
theorem frP.RE {g g' : MG} (h : frP (wr g 0 0 0) g') : g' 0 0 = nI 0 ∧ RE g g' ∧ ∀ q, 26 ≤ q → g' q = g q :=
  ⟨h.2 0 (by decide), RE.of (fun j h1 h2 => (h.2 j (by omega)).trans (wr_ne _ _ _ _ (Or.inr (by omega)))) (fun k h1 h2 => (h.1 k (by omega) (by omega)).trans (wr_row _ _ _ _ (by omega))), fun q hq => (h.1 q (by omega) (by omega)).trans (wr_row _ _ _ _ (by omega))⟩
def cdWould (g : MG) (p v : Int32) : Nat := if isN (npO g) p = false ∨ inB v 0 1 = false then 1 else 0
def anWould (g : MG) (p v : Int32) : Int32 := if v = 0 then prP g (iz p) else wdF (plO g (iz p))
set_option maxRecDepth 100000 in
theorem c_would (l : Launch) (Z : Zc) (p v : Int32) (g : MG) (hI : IvM g) : MI l yX4_would cX4_would 3 (some .int) (rmz 5 140 0 0) Z [.ref (Z.ad 0), .int p, .int v] g (PM g (cdWould g p v) (anWould g p v) (g)) := by
  refine ent_i (own := RX4) (lo := [some (.ref (Z.ad 0)), some (.int p), some (.int v)]) (by decide) rfl (by simp [lg_sl, Value.category]) rfl (fun P hl C ret => ?_)
  obtain ⟨⟨nf, hf5, hnf⟩, ⟨np, hp6, hnp⟩, hot, hnl, htn, his, hwd, htk⟩ := id hI
  have enf : nfO g = nf := by unfold nfO; rw [hnf]; exact iz_nI (by omega)
  have enp : npO g = np := by unfold npO; rw [hnp]; exact iz_nI (by omega)
  refine v_aload_n C dX4_would_0 rfl rfl ?_
  refine v_iconst (v := 0) C dX4_would_1 (by decide) ?_
  refine v_put C inG4 rfl tyX4 tyX4_ok nmX4 0 (by decide) (tg3 195 rfl rfl) rfl rfl (ty := .int) rfl rfl rfl cx_M (Nat.le_of_ble_eq_true rfl) rfl (by omega) cx_M dX4_would_2 ?_
  refine v_aload_n C dX4_would_5 rfl rfl ?_
  refine v_iload_n C dX4_would_6 rfl rfl ?_
  refine v_callVi (n := 1) (as := [.int p]) C (c_isPoster _ Z np p (wr g 0 0 0) hnp hp6) (gv (tg4 87 rfl rfl) (tg4 89 rfl rfl) (tg0 22 rfl rfl) (tg1 6 rfl rfl) (tg4 90 rfl rfl)) (by decide +kernel) ⟨Nat.le_of_ble_eq_true rfl, Nat.le_of_ble_eq_true rfl⟩ rfl cx_M rfl rfl (Nat.le_of_ble_eq_true rfl) dX4_would_7 ⟨Nat.le_of_ble_eq_true rfl, Nat.le_of_ble_eq_true rfl⟩ (fun r7 g7 hp7 => ?_)
  obtain ⟨rfl, hg7⟩ := hp7
  rw [hg7]
  refine v_if_eq (tgt := 22) C dX4_would_10 (by decide) (fun h10 => ?_) (fun h10 => ?_)
  · have k10 := bI_0.mp h10
    refine v_aload_n C dX4_would_22 rfl rfl ?_
    refine v_iconst (v := 1) C dX4_would_23 (by decide) ?_
    refine v_callVi (n := 1) (as := [.int 1]) C (c_no _ Z 1 (wr g 0 0 0)) (gv (tg4 48 rfl rfl) (tg4 50 rfl rfl) (tg0 20 rfl rfl) (tg1 6 rfl rfl) (tg4 51 rfl rfl)) (by decide +kernel) ⟨Nat.le_of_ble_eq_true rfl, Nat.le_of_ble_eq_true rfl⟩ rfl cx_M rfl rfl (Nat.le_of_ble_eq_true rfl) dX4_would_24 ⟨Nat.le_of_ble_eq_true rfl, Nat.le_of_ble_eq_true rfl⟩ (fun r24 g24 hp24 => ?_)
    obtain ⟨rfl, hg24⟩ := hp24
    rw [hg24]
    exact ret _ _ _ _ dX4_would_27 (PM.no (k := 1) (by unfold cdWould; rw [enp, if_pos (Or.inl k10)]) (by decide) rfl (fun j h1 h2 => wr_ne _ _ _ _ (Or.inr (by omega))) (fun q h1 h2 => wr_row _ _ _ _ (by omega)) (fun q hq => wr_row _ _ _ _ (by omega)))
  · have k10 := bI_1.mp h10
    refine v_iload_n C dX4_would_13 rfl rfl ?_
    refine v_iconst (v := 0) C dX4_would_14 (by decide) ?_
    refine v_iconst (v := 1) C dX4_would_15 (by decide) ?_
    refine v_callSi (n := 3) (as := [.int v, .int 0, .int 1]) C (c_isIn _ Z v 0 1 (wr g 0 0 0)) (gs (tg4 45 rfl rfl) (tg4 46 rfl rfl) (tg1 6 rfl rfl) (tg4 47 rfl rfl)) (by decide +kernel) ⟨Nat.le_of_ble_eq_true rfl, Nat.le_of_ble_eq_true rfl⟩ rfl rfl (Nat.le_of_ble_eq_true rfl) dX4_would_16 ⟨Nat.le_of_ble_eq_true rfl, Nat.le_of_ble_eq_true rfl⟩ (fun r16 g16 hp16 => ?_)
    obtain ⟨rfl, hg16⟩ := hp16
    rw [hg16]
    refine v_if_ne (tgt := 28) C dX4_would_19 (by decide) (fun h19 => ?_) (fun h19 => ?_)
    · have k19 := bI_1.mp h19
      have hcd : cdWould g p v = 0 := by unfold cdWould; rw [enp, if_neg (by rw [k10, k19]; decide)]
      obtain ⟨a, ha, rfl⟩ := isN_ex k10
      have ea : iz (nI a) = a := iz_nI (by omega)
      have hl := IvM_nl hI (show a < 6 by omega)
      have ht := IvM_t hI (show a < 6 by omega)
      refine v_iload_n C dX4_would_28 rfl rfl ?_
      refine v_if_ne (tgt := 40) C dX4_would_29 (by decide) (fun h29 => ?_) (fun h29 => ?_)
      · refine v_aload_n C dX4_would_40 rfl rfl ?_
        refine v_iload_n C dX4_would_41 rfl rfl ?_
        refine v_callVi (n := 1) (as := [.int (nI a)]) C (c_tryPoster _ Z a (nlO g a) nf (wdO g) (wr g 0 0 0) (by omega) hot hnf hf5 hl.1 hl.2 (IvM_W hI)) (gv (tg4 96 rfl rfl) (tg4 98 rfl rfl) (tg0 23 rfl rfl) (tg1 6 rfl rfl) (tg4 99 rfl rfl)) (by decide +kernel) ⟨Nat.le_of_ble_eq_true rfl, Nat.le_of_ble_eq_true rfl⟩ rfl cx_M rfl rfl (Nat.le_of_ble_eq_true rfl) dX4_would_42 ⟨Nat.le_of_ble_eq_true rfl, Nat.le_of_ble_eq_true rfl⟩ (fun r42 g42 hp42 => ?_)
        obtain ⟨hfr, hq⟩ := hp42
        have hr := plQ_wd hq
        exact ret _ _ _ _ dX4_would_45 ⟨(frP.RE hfr).1.trans (by rw [hcd]), fun _ => by unfold anWould plO; rw [if_neg h29, ea, enf]; exact hr, (frP.RE hfr).2.1, (frP.RE hfr).2.2⟩
      · refine v_aload_n C dX4_would_32 rfl rfl ?_
        refine v_iload_n C dX4_would_33 rfl rfl ?_
        refine v_callVi (n := 1) (as := [.int (nI a)]) C (c_proofTried _ Z a (nlO g a) nf (iz (g 12 a)) (wdO g) (wr g 0 0 0) (by omega) hot hnf hf5 hl.1 hl.2 (IvM_W hI) ht.2 ht.1) (gv (tg4 191 rfl rfl) (tg4 193 rfl rfl) (tg0 37 rfl rfl) (tg1 6 rfl rfl) (tg4 194 rfl rfl)) (by decide +kernel) ⟨Nat.le_of_ble_eq_true rfl, Nat.le_of_ble_eq_true rfl⟩ rfl cx_M rfl rfl (Nat.le_of_ble_eq_true rfl) dX4_would_34 ⟨Nat.le_of_ble_eq_true rfl, Nat.le_of_ble_eq_true rfl⟩ (fun r34 g34 hp34 => ?_)
        obtain ⟨hfr, hr⟩ := hp34
        refine v_goto (tgt := 45) C dX4_would_37 (by decide) ?_
        exact ret _ _ _ _ dX4_would_45 ⟨(frP.RE hfr).1.trans (by rw [hcd]), fun _ => by unfold anWould prP plO; rw [if_pos h29, ea, enf]; exact hr, (frP.RE hfr).2.1, (frP.RE hfr).2.2⟩
    · have k19 := bI_0.mp h19
      refine v_aload_n C dX4_would_22 rfl rfl ?_
      refine v_iconst (v := 1) C dX4_would_23 (by decide) ?_
      refine v_callVi (n := 1) (as := [.int 1]) C (c_no _ Z 1 (wr g 0 0 0)) (gv (tg4 48 rfl rfl) (tg4 50 rfl rfl) (tg0 20 rfl rfl) (tg1 6 rfl rfl) (tg4 51 rfl rfl)) (by decide +kernel) ⟨Nat.le_of_ble_eq_true rfl, Nat.le_of_ble_eq_true rfl⟩ rfl cx_M rfl rfl (Nat.le_of_ble_eq_true rfl) dX4_would_24 ⟨Nat.le_of_ble_eq_true rfl, Nat.le_of_ble_eq_true rfl⟩ (fun r24 g24 hp24 => ?_)
      obtain ⟨rfl, hg24⟩ := hp24
      rw [hg24]
      exact ret _ _ _ _ dX4_would_27 (PM.no (k := 1) (by unfold cdWould; rw [enp, if_pos (Or.inr k19)]) (by decide) rfl (fun j h1 h2 => wr_ne _ _ _ _ (Or.inr (by omega))) (fun q h1 h2 => wr_row _ _ _ _ (by omega)) (fun q hq => wr_row _ _ _ _ (by omega)))
def nxt (pf : Nat → Int32) : Nat → Int32 × Int32
  | 0 => (-1, -1)
  | p + 1 => if (nxt pf p).2 < pf p then (nI p, pf p) else nxt pf p
set_option maxRecDepth 100000 in
theorem c_next (l : Launch) (Z : Zc)  (g : MG) (hI : IvM g) : MI l yX4_next cX4_next 5 (some .int) (rmz 5 140 0 0) Z [.ref (Z.ad 0)] g (PM g (0) ((nxt (prP g) (npO g)).1) (g)) := by
  refine ent_i (own := RX4) (lo := [some (.ref (Z.ad 0)), none, none, none, none]) (by decide) rfl (by simp [lg_sl, Value.category]) rfl (fun P hl C ret => ?_)
  obtain ⟨⟨nf, hf5, hnf⟩, ⟨np, hp6, hnp⟩, hot, hnl, htn, his, hwd, htk⟩ := id hI
  have enf : nfO g = nf := by unfold nfO; rw [hnf]; exact iz_nI (by omega)
  have enp : npO g = np := by unfold npO; rw [hnp]; exact iz_nI (by omega)
  have loop : ∀ (n : Nat) (p : Nat) (g1 : MG) (v : Option Value), np - p < n → p ≤ np → frP (wr g 0 0 0) g1 → V P (rmz 5 140 0 0) Z [some (.ref (Z.ad 0)), some (.int ((nxt (prP g) p).1)), some (.int ((nxt (prP g) p).2)), some (.int (nI p)), v] 11 [] g1 0 0 := by
    intro n
    induction n with
    | zero => intro p g1 v hn hp hfr; exact absurd hn (Nat.not_lt_zero _)
    | succ n ih =>
      intro p g1 v hn hp hfr
      refine v_iload_n C dX4_next_11 rfl rfl ?_
      refine v_aload_n C dX4_next_12 rfl rfl ?_
      refine v_get C inG4 rfl 2 (by decide) (tg3 197 rfl rfl) rfl cx_M rfl dX4_next_13 ?_
      refine v_topi (y := nI np) ((hfr.2 2 (by decide)).trans hnp) ?_
      refine v_icmp_ge (tgt := 46) C dX4_next_16 (by decide) (fun h16 => ?_) (fun h16 => ?_)
      · have hpn : p = np := Nat.le_antisymm hp ((nI_leI (by omega) (by omega)).mp h16)
        refine v_iload_n C dX4_next_46 rfl rfl ?_
        exact ret _ _ _ _ dX4_next_47 ⟨(frP.RE hfr).1, fun _ => by rw [enp, hpn], (frP.RE hfr).2.1, (frP.RE hfr).2.2⟩
      · have hpn : p < np := Nat.lt_of_not_le fun q => h16 ((nI_leI (by omega) (by omega)).mpr q)
        have hl := IvM_nl hI (show p < 6 by omega)
        have ht := IvM_t hI (show p < 6 by omega)
        refine v_aload_n C dX4_next_19 rfl rfl ?_
        refine v_iload_n C dX4_next_20 rfl rfl ?_
        refine v_callVi (n := 1) (as := [.int (nI p)]) C (c_proofTried _ Z p (nlO g p) nf (iz (g 12 p)) (wdO g) g1 (by omega) (by rw [hfr.1 9 (by omega) (by decide)]; exact hot) ((hfr.2 1 (by decide)).trans hnf) hf5 (by rw [hfr.1 14 (by omega) (by decide)]; exact hl.1) hl.2 (by rw [hfr.1 17 (by omega) (by decide)]; exact IvM_W hI) ht.2 (by rw [hfr.1 12 (by omega) (by decide)]; exact ht.1)) (gv (tg4 191 rfl rfl) (tg4 193 rfl rfl) (tg0 37 rfl rfl) (tg1 6 rfl rfl) (tg4 194 rfl rfl)) (by decide +kernel) ⟨Nat.le_of_ble_eq_true rfl, Nat.le_of_ble_eq_true rfl⟩ rfl cx_M rfl rfl (Nat.le_of_ble_eq_true rfl) dX4_next_21 ⟨Nat.le_of_ble_eq_true rfl, Nat.le_of_ble_eq_true rfl⟩ (fun r21 g21 hp21 => ?_)
        obtain ⟨hfr2, hr⟩ := hp21
        have hr2 : r21 = prP g p := by unfold prP plO; rw [enf, hr]; exact plE_pr hfr (plM_fr hfr (wdO g) hf5 hl.2 hot) (wdO g) p (nlO g p) (iz (g 12 p))
        subst hr2
        refine v_istore (lo' := [some (.ref (Z.ad 0)), some (.int ((nxt (prP g) p).1)), some (.int ((nxt (prP g) p).2)), some (.int (nI p)), some (.int (prP g p))]) C dX4_next_24 (Nat.le_of_ble_eq_true rfl) rfl rfl ?_
        refine v_iload C dX4_next_26 rfl ?_
        refine v_iload_n C dX4_next_28 rfl rfl ?_
        refine v_icmp_gt (tgt := 35) C dX4_next_29 (by decide) (fun h29 => ?_) (fun h29 => ?_)
        · refine v_iload_n C dX4_next_35 rfl rfl ?_
          refine v_istore_n (lo' := [some (.ref (Z.ad 0)), some (.int (nI p)), some (.int ((nxt (prP g) p).2)), some (.int (nI p)), some (.int (prP g p))]) C dX4_next_36 rfl (Nat.le_of_ble_eq_true rfl) rfl rfl ?_
          refine v_iload C dX4_next_37 rfl ?_
          refine v_istore_n (lo' := [some (.ref (Z.ad 0)), some (.int (nI p)), some (.int (prP g p)), some (.int (nI p)), some (.int (prP g p))]) C dX4_next_39 rfl (Nat.le_of_ble_eq_true rfl) rfl rfl ?_
          refine v_iinc (lo' := [some (.ref (Z.ad 0)), some (.int (nI p)), some (.int (prP g p)), some (.int ((nI p) + 1)), some (.int (prP g p))]) C dX4_next_40 rfl rfl rfl rfl ?_
          refine v_lo (lo' := [some (.ref (Z.ad 0)), some (.int (nI p)), some (.int (prP g p)), some (.int (nI (p + 1))), some (.int (prP g p))]) (by rw [← nI_1 p]) ?_
          refine v_goto (tgt := 11) C dX4_next_43 (by decide) ?_
          have hst : nxt (prP g) (p + 1) = (nI p, prP g p) := by rw [nxt, if_pos h29]
          refine v_lo (lo' := [some (.ref (Z.ad 0)), some (.int ((nxt (prP g) (p + 1)).1)), some (.int ((nxt (prP g) (p + 1)).2)), some (.int (nI (p + 1))), some (.int (prP g p))]) (by rw [hst]) ?_
          exact ih (p + 1) g21 _ (by omega) (by omega) (hfr.trans hfr2)
        · refine v_goto (tgt := 40) C dX4_next_32 (by decide) ?_
          refine v_iinc (lo' := [some (.ref (Z.ad 0)), some (.int ((nxt (prP g) p).1)), some (.int ((nxt (prP g) p).2)), some (.int ((nI p) + 1)), some (.int (prP g p))]) C dX4_next_40 rfl rfl rfl rfl ?_
          refine v_lo (lo' := [some (.ref (Z.ad 0)), some (.int ((nxt (prP g) p).1)), some (.int ((nxt (prP g) p).2)), some (.int (nI (p + 1))), some (.int (prP g p))]) (by rw [← nI_1 p]) ?_
          refine v_goto (tgt := 11) C dX4_next_43 (by decide) ?_
          have hst : nxt (prP g) (p + 1) = nxt (prP g) p := by rw [nxt, if_neg h29]
          refine v_lo (lo' := [some (.ref (Z.ad 0)), some (.int ((nxt (prP g) (p + 1)).1)), some (.int ((nxt (prP g) (p + 1)).2)), some (.int (nI (p + 1))), some (.int (prP g p))]) (by rw [hst]) ?_
          exact ih (p + 1) g21 _ (by omega) (by omega) (hfr.trans hfr2)
  refine v_aload_n C dX4_next_0 rfl rfl ?_
  refine v_iconst (v := 0) C dX4_next_1 (by decide) ?_
  refine v_put C inG4 rfl tyX4 tyX4_ok nmX4 0 (by decide) (tg3 195 rfl rfl) rfl rfl (ty := .int) rfl rfl rfl cx_M (Nat.le_of_ble_eq_true rfl) rfl (by omega) cx_M dX4_next_2 ?_
  refine v_iconst (v := (-1)) C dX4_next_5 (by decide) ?_
  refine v_istore_n (lo' := [some (.ref (Z.ad 0)), some (.int (-1)), none, none, none]) C dX4_next_6 rfl (Nat.le_of_ble_eq_true rfl) rfl rfl ?_
  refine v_iconst (v := (-1)) C dX4_next_7 (by decide) ?_
  refine v_istore_n (lo' := [some (.ref (Z.ad 0)), some (.int (-1)), some (.int (-1)), none, none]) C dX4_next_8 rfl (Nat.le_of_ble_eq_true rfl) rfl rfl ?_
  refine v_iconst (v := 0) C dX4_next_9 (by decide) ?_
  refine v_topi (y := nI 0) rfl ?_
  refine v_istore_n (lo' := [some (.ref (Z.ad 0)), some (.int (-1)), some (.int (-1)), some (.int (nI 0)), none]) C dX4_next_10 rfl (Nat.le_of_ble_eq_true rfl) rfl rfl ?_
  exact loop (np + 1) 0 _ none (by omega) (by omega) frP.rf
def adv (pf b6 : Nat → Int32) (f0 : Int32) : Nat → Int32 × Int32
  | 0 => (-1, f0)
  | k + 1 => if b6 k = 9 then adv pf b6 f0 k else if pf k = -1 ∨ (¬ (adv pf b6 f0 k).2 = -1 ∧ ¬ pf k < (adv pf b6 f0 k).2) then adv pf b6 f0 k else (nI k, pf k)
/-- the flaws with one block more -/
def pfO (g : MG) (p k : Nat) : Int32 := wdF (plO (wr g 6 k (g 6 k + 1)) p)
def anAdvise (g : MG) (p : Nat) : Int32 := (adv (pfO g p) (g 6) (wdF (plO g p)) (10 * nfO g)).1
theorem frP.w6 {g g1 : MG} (h : frP g g1) (k : Nat) (x : Int32) : frP (wr g 6 k x) (wr g1 6 k x) := by
  refine ⟨fun q h1 h2 => ?_, fun j hj => ?_⟩
  · by_cases hq : q = 6
    · subst hq; rw [wr_own, wr_own, h.1 6 (by omega) (by decide)]
    · rw [wr_row _ _ _ _ hq, wr_row _ _ _ _ hq]; exact h.1 q h1 h2
  · rw [wr_row _ _ _ _ (by decide), wr_row _ _ _ _ (by decide)]; exact h.2 j hj
theorem frP.back {g g3 : MG} {k : Nat} (h : frP (wr g 6 k (g 6 k + 1)) g3) : frP g (wr g3 6 k (g3 6 k - 1)) := by
  refine ⟨fun q h1 h2 => ?_, fun j hj => ?_⟩
  · by_cases hq : q = 6
    · subst hq
      rw [wr_own]
      funext j
      unfold upd
      have e6 : g3 6 = wr g 6 k (g 6 k + 1) 6 := h.1 6 (by omega) (by decide)
      by_cases hj : j = k
      · rw [if_pos hj, e6, wr_same, hj, Int32.add_sub_cancel]
      · rw [if_neg hj, e6, wr_ne _ _ _ _ (Or.inr hj)]
    · rw [wr_row _ _ _ _ hq, h.1 q h1 h2, wr_row _ _ _ _ hq]
  · rw [wr_row _ _ _ _ (by decide), h.2 j hj, wr_row _ _ _ _ (by decide)]
set_option maxRecDepth 100000 in
theorem c_adviseTold (l : Launch) (Z : Zc) (p : Nat) (g : MG) (hI : IvM g) (hp : p < 6) : MI l yX4_adviseTold cX4_adviseTold 6 (some .int) (rmz 4 110 0 0) Z [.ref (Z.ad 0), .int (nI p)] g (fun r g' => frP g g' ∧ r = anAdvise g p) := by
  refine ent_i (own := RX4) (lo := [some (.ref (Z.ad 0)), some (.int (nI p)), none, none, none, none]) (by decide) rfl (by simp [lg_sl, Value.category]) rfl (fun P hl C ret => ?_)
  obtain ⟨⟨nf, hf5, hnf⟩, -, hot, -⟩ := id hI
  have enf : nfO g = nf := by unfold nfO; rw [hnf]; exact iz_nI (by omega)
  have hl := IvM_nl hI hp
  have loop : ∀ (n : Nat) (k : Nat) (g1 : MG) (v : Option Value), 10 * nf - k < n → k ≤ 10 * nf → frP g g1 → V P (rmz 4 110 0 0) Z [some (.ref (Z.ad 0)), some (.int (nI p)), some (.int ((adv (pfO g p) (g 6) (wdF (plO g p)) k).1)), some (.int ((adv (pfO g p) (g 6) (wdF (plO g p)) k).2)), some (.int (nI k)), v] 11 [] g1 0 0 := by
    intro n
    induction n with
    | zero => intro k g1 v hn hk hfr; exact absurd hn (Nat.not_lt_zero _)
    | succ n ih =>
      intro k g1 v hn hk hfr
      refine v_iload C dX4_adviseTold_11 rfl ?_
      refine v_bipush (v := 10) C dX4_adviseTold_13 (by decide) ?_
      refine v_aload_n C dX4_adviseTold_15 rfl rfl ?_
      refine v_get C inG4 rfl 1 (by decide) (tg3 196 rfl rfl) rfl cx_M rfl dX4_adviseTold_16 ?_
      refine v_topi (y := nI nf) ((hfr.2 1 (by decide)).trans hnf) ?_
      refine v_imul C dX4_adviseTold_19 ?_
      refine v_topi (y := nI (10 * nf)) (by rw [show (10 : Int32) = nI 10 from rfl, nI_mul]) ?_
      refine v_icmp_ge (tgt := 99) C dX4_adviseTold_20 (by decide) (fun h20 => ?_) (fun h20 => ?_)
      · have hkn : k = 10 * nf := Nat.le_antisymm hk ((nI_leI (by omega) (by omega)).mp h20)
        refine v_iload_n C dX4_adviseTold_99 rfl rfl ?_
        exact ret _ _ _ _ dX4_adviseTold_100 ⟨hfr, by unfold anAdvise; rw [enf, ← hkn]⟩
      · have hkn : k < 10 * nf := Nat.lt_of_not_le fun q => h20 ((nI_leI (by omega) (by omega)).mpr q)
        have e6 : g1 6 = g 6 := hfr.1 6 (by omega) (by decide)
        refine v_aload_n C dX4_adviseTold_23 rfl rfl ?_
        refine v_get C inG4 rfl 6 (by decide) (tg3 201 rfl rfl) rfl cx_M rfl dX4_adviseTold_24 ?_
        refine v_iload C dX4_adviseTold_27 rfl ?_
        refine v_ialdN (a := k) C cxA6 (by omega) dX4_adviseTold_29 ?_
        refine v_topi (y := g 6 k) (by rw [e6]) ?_
        refine v_bipush (v := 9) C dX4_adviseTold_30 (by decide) ?_
        refine v_icmp_ne (tgt := 38) C dX4_adviseTold_32 (by decide) (fun h32 => ?_) (fun h32 => ?_)
        · refine v_aload_n C dX4_adviseTold_38 rfl rfl ?_
          refine v_get C inG4 rfl 6 (by decide) (tg3 201 rfl rfl) rfl cx_M rfl dX4_adviseTold_39 ?_
          refine v_iload C dX4_adviseTold_42 rfl ?_
          refine v_dup2 C dX4_adviseTold_44 rfl rfl ?_
          refine v_ialdN (a := k) C cxA6 (by omega) dX4_adviseTold_45 ?_
          refine v_iconst (v := 1) C dX4_adviseTold_46 (by decide) ?_
          refine v_iadd C dX4_adviseTold_47 ?_
          refine v_iastN (a := k) C (fun _ _ => cxA6) rfl (by omega) (by omega) dX4_adviseTold_48 ?_
          refine v_aload_n C dX4_adviseTold_49 rfl rfl ?_
          refine v_iload_n C dX4_adviseTold_50 rfl rfl ?_
          have hfr2 : frP (wr g 6 k (g 6 k + 1)) (wr g1 6 k (g1 6 k + 1)) := by rw [e6]; exact hfr.w6 k _
          refine v_callVi (n := 1) (as := [.int (nI p)]) C (c_tryPoster _ Z p (nlO g p) nf (wdO g) (wr g1 6 k ((g1 6 k) + 1)) hp (by rw [hfr2.1 9 (by omega) (by decide)]; exact hot) ((hfr2.2 1 (by decide)).trans hnf) hf5 (by rw [hfr2.1 14 (by omega) (by decide)]; exact hl.1) hl.2 (by rw [hfr2.1 17 (by omega) (by decide)]; exact IvM_W hI)) (gv (tg4 96 rfl rfl) (tg4 98 rfl rfl) (tg0 23 rfl rfl) (tg1 6 rfl rfl) (tg4 99 rfl rfl)) (by decide +kernel) ⟨Nat.le_of_ble_eq_true rfl, Nat.le_of_ble_eq_true rfl⟩ rfl cx_M rfl rfl (Nat.le_of_ble_eq_true rfl) dX4_adviseTold_51 ⟨Nat.le_of_ble_eq_true rfl, Nat.le_of_ble_eq_true rfl⟩ (fun r51 g51 hp51 => ?_)
          obtain ⟨hfr3, hq⟩ := hp51
          have hr2 : r51 = pfO g p k := by rw [plQ_wd hq]; unfold pfO plO; rw [show nlO (wr g 6 k (g 6 k + 1)) p = nlO g p from rfl, show nfO (wr g 6 k (g 6 k + 1)) = nf from enf, show wdO (wr g 6 k (g 6 k + 1)) = wdO g from rfl]; exact plE_wd (plM_fr hfr2 (wdO g) hf5 hl.2 hot)
          subst hr2
          have hfr4 := (hfr2.trans hfr3).back
          refine v_istore (lo' := [some (.ref (Z.ad 0)), some (.int (nI p)), some (.int ((adv (pfO g p) (g 6) (wdF (plO g p)) k).1)), some (.int ((adv (pfO g p) (g 6) (wdF (plO g p)) k).2)), some (.int (nI k)), some (.int (pfO g p k))]) C dX4_adviseTold_54 (Nat.le_of_ble_eq_true rfl) rfl rfl ?_
          refine v_aload_n C dX4_adviseTold_56 rfl rfl ?_
          refine v_get C inG4 rfl 6 (by decide) (tg3 201 rfl rfl) rfl cx_M rfl dX4_adviseTold_57 ?_
          refine v_iload C dX4_adviseTold_60 rfl ?_
          refine v_dup2 C dX4_adviseTold_62 rfl rfl ?_
          refine v_ialdN (a := k) C cxA6 (by omega) dX4_adviseTold_63 ?_
          refine v_iconst (v := 1) C dX4_adviseTold_64 (by decide) ?_
          refine v_isub C dX4_adviseTold_65 ?_
          refine v_iastN (a := k) C (fun _ _ => cxA6) rfl (by omega) (by omega) dX4_adviseTold_66 ?_
          refine v_iload C dX4_adviseTold_67 rfl ?_
          refine v_iconst (v := (-1)) C dX4_adviseTold_69 (by decide) ?_
          refine v_icmp_eq (tgt := 93) C dX4_adviseTold_70 (by decide) (fun h70 => ?_) (fun h70 => ?_)
          · refine v_iinc (lo' := [some (.ref (Z.ad 0)), some (.int (nI p)), some (.int ((adv (pfO g p) (g 6) (wdF (plO g p)) k).1)), some (.int ((adv (pfO g p) (g 6) (wdF (plO g p)) k).2)), some (.int ((nI k) + 1)), some (.int (pfO g p k))]) C dX4_adviseTold_93 rfl rfl rfl rfl ?_
            refine v_lo (lo' := [some (.ref (Z.ad 0)), some (.int (nI p)), some (.int ((adv (pfO g p) (g 6) (wdF (plO g p)) k).1)), some (.int ((adv (pfO g p) (g 6) (wdF (plO g p)) k).2)), some (.int (nI (k + 1))), some (.int (pfO g p k))]) (by rw [← nI_1 k]) ?_
            refine v_goto (tgt := 11) C dX4_adviseTold_96 (by decide) ?_
            have hst : adv (pfO g p) (g 6) (wdF (plO g p)) (k + 1) = adv (pfO g p) (g 6) (wdF (plO g p)) k := by rw [adv, if_neg h32, if_pos (Or.inl h70)]
            refine v_lo (lo' := [some (.ref (Z.ad 0)), some (.int (nI p)), some (.int ((adv (pfO g p) (g 6) (wdF (plO g p)) (k + 1)).1)), some (.int ((adv (pfO g p) (g 6) (wdF (plO g p)) (k + 1)).2)), some (.int (nI (k + 1))), some (.int (pfO g p k))]) (by rw [hst]) ?_
            exact ih (k + 1) _ _ (by omega) (by omega) hfr4
          · refine v_iload_n C dX4_adviseTold_73 rfl rfl ?_
            refine v_iconst (v := (-1)) C dX4_adviseTold_74 (by decide) ?_
            refine v_icmp_eq (tgt := 87) C dX4_adviseTold_75 (by decide) (fun h75 => ?_) (fun h75 => ?_)
            · refine v_iload C dX4_adviseTold_87 rfl ?_
              refine v_istore_n (lo' := [some (.ref (Z.ad 0)), some (.int (nI p)), some (.int (nI k)), some (.int ((adv (pfO g p) (g 6) (wdF (plO g p)) k).2)), some (.int (nI k)), some (.int (pfO g p k))]) C dX4_adviseTold_89 rfl (Nat.le_of_ble_eq_true rfl) rfl rfl ?_
              refine v_iload C dX4_adviseTold_90 rfl ?_
              refine v_istore_n (lo' := [some (.ref (Z.ad 0)), some (.int (nI p)), some (.int (nI k)), some (.int (pfO g p k)), some (.int (nI k)), some (.int (pfO g p k))]) C dX4_adviseTold_92 rfl (Nat.le_of_ble_eq_true rfl) rfl rfl ?_
              refine v_iinc (lo' := [some (.ref (Z.ad 0)), some (.int (nI p)), some (.int (nI k)), some (.int (pfO g p k)), some (.int ((nI k) + 1)), some (.int (pfO g p k))]) C dX4_adviseTold_93 rfl rfl rfl rfl ?_
              refine v_lo (lo' := [some (.ref (Z.ad 0)), some (.int (nI p)), some (.int (nI k)), some (.int (pfO g p k)), some (.int (nI (k + 1))), some (.int (pfO g p k))]) (by rw [← nI_1 k]) ?_
              refine v_goto (tgt := 11) C dX4_adviseTold_96 (by decide) ?_
              have hst : adv (pfO g p) (g 6) (wdF (plO g p)) (k + 1) = (nI k, pfO g p k) := by rw [adv, if_neg h32, if_neg (by rintro (q | ⟨q1, q2⟩); (· exact h70 q); (· exact q1 h75))]
              refine v_lo (lo' := [some (.ref (Z.ad 0)), some (.int (nI p)), some (.int ((adv (pfO g p) (g 6) (wdF (plO g p)) (k + 1)).1)), some (.int ((adv (pfO g p) (g 6) (wdF (plO g p)) (k + 1)).2)), some (.int (nI (k + 1))), some (.int (pfO g p k))]) (by rw [hst]) ?_
              exact ih (k + 1) _ _ (by omega) (by omega) hfr4
            · refine v_iload C dX4_adviseTold_78 rfl ?_
              refine v_iload_n C dX4_adviseTold_80 rfl rfl ?_
              refine v_icmp_lt (tgt := 87) C dX4_adviseTold_81 (by decide) (fun h81 => ?_) (fun h81 => ?_)
              · refine v_iload C dX4_adviseTold_87 rfl ?_
                refine v_istore_n (lo' := [some (.ref (Z.ad 0)), some (.int (nI p)), some (.int (nI k)), some (.int ((adv (pfO g p) (g 6) (wdF (plO g p)) k).2)), some (.int (nI k)), some (.int (pfO g p k))]) C dX4_adviseTold_89 rfl (Nat.le_of_ble_eq_true rfl) rfl rfl ?_
                refine v_iload C dX4_adviseTold_90 rfl ?_
                refine v_istore_n (lo' := [some (.ref (Z.ad 0)), some (.int (nI p)), some (.int (nI k)), some (.int (pfO g p k)), some (.int (nI k)), some (.int (pfO g p k))]) C dX4_adviseTold_92 rfl (Nat.le_of_ble_eq_true rfl) rfl rfl ?_
                refine v_iinc (lo' := [some (.ref (Z.ad 0)), some (.int (nI p)), some (.int (nI k)), some (.int (pfO g p k)), some (.int ((nI k) + 1)), some (.int (pfO g p k))]) C dX4_adviseTold_93 rfl rfl rfl rfl ?_
                refine v_lo (lo' := [some (.ref (Z.ad 0)), some (.int (nI p)), some (.int (nI k)), some (.int (pfO g p k)), some (.int (nI (k + 1))), some (.int (pfO g p k))]) (by rw [← nI_1 k]) ?_
                refine v_goto (tgt := 11) C dX4_adviseTold_96 (by decide) ?_
                have hst : adv (pfO g p) (g 6) (wdF (plO g p)) (k + 1) = (nI k, pfO g p k) := by rw [adv, if_neg h32, if_neg (by rintro (q | ⟨q1, q2⟩); (· exact h70 q); (· exact q2 h81))]
                refine v_lo (lo' := [some (.ref (Z.ad 0)), some (.int (nI p)), some (.int ((adv (pfO g p) (g 6) (wdF (plO g p)) (k + 1)).1)), some (.int ((adv (pfO g p) (g 6) (wdF (plO g p)) (k + 1)).2)), some (.int (nI (k + 1))), some (.int (pfO g p k))]) (by rw [hst]) ?_
                exact ih (k + 1) _ _ (by omega) (by omega) hfr4
              · refine v_goto (tgt := 93) C dX4_adviseTold_84 (by decide) ?_
                refine v_iinc (lo' := [some (.ref (Z.ad 0)), some (.int (nI p)), some (.int ((adv (pfO g p) (g 6) (wdF (plO g p)) k).1)), some (.int ((adv (pfO g p) (g 6) (wdF (plO g p)) k).2)), some (.int ((nI k) + 1)), some (.int (pfO g p k))]) C dX4_adviseTold_93 rfl rfl rfl rfl ?_
                refine v_lo (lo' := [some (.ref (Z.ad 0)), some (.int (nI p)), some (.int ((adv (pfO g p) (g 6) (wdF (plO g p)) k).1)), some (.int ((adv (pfO g p) (g 6) (wdF (plO g p)) k).2)), some (.int (nI (k + 1))), some (.int (pfO g p k))]) (by rw [← nI_1 k]) ?_
                refine v_goto (tgt := 11) C dX4_adviseTold_96 (by decide) ?_
                have hst : adv (pfO g p) (g 6) (wdF (plO g p)) (k + 1) = adv (pfO g p) (g 6) (wdF (plO g p)) k := by rw [adv, if_neg h32, if_pos (Or.inr ⟨h75, h81⟩)]
                refine v_lo (lo' := [some (.ref (Z.ad 0)), some (.int (nI p)), some (.int ((adv (pfO g p) (g 6) (wdF (plO g p)) (k + 1)).1)), some (.int ((adv (pfO g p) (g 6) (wdF (plO g p)) (k + 1)).2)), some (.int (nI (k + 1))), some (.int (pfO g p k))]) (by rw [hst]) ?_
                exact ih (k + 1) _ _ (by omega) (by omega) hfr4
        · refine v_goto (tgt := 93) C dX4_adviseTold_35 (by decide) ?_
          refine v_iinc (lo' := [some (.ref (Z.ad 0)), some (.int (nI p)), some (.int ((adv (pfO g p) (g 6) (wdF (plO g p)) k).1)), some (.int ((adv (pfO g p) (g 6) (wdF (plO g p)) k).2)), some (.int ((nI k) + 1)), v]) C dX4_adviseTold_93 rfl rfl rfl rfl ?_
          refine v_lo (lo' := [some (.ref (Z.ad 0)), some (.int (nI p)), some (.int ((adv (pfO g p) (g 6) (wdF (plO g p)) k).1)), some (.int ((adv (pfO g p) (g 6) (wdF (plO g p)) k).2)), some (.int (nI (k + 1))), v]) (by rw [← nI_1 k]) ?_
          refine v_goto (tgt := 11) C dX4_adviseTold_96 (by decide) ?_
          have hst : adv (pfO g p) (g 6) (wdF (plO g p)) (k + 1) = adv (pfO g p) (g 6) (wdF (plO g p)) k := by rw [adv, if_pos h32]
          refine v_lo (lo' := [some (.ref (Z.ad 0)), some (.int (nI p)), some (.int ((adv (pfO g p) (g 6) (wdF (plO g p)) (k + 1)).1)), some (.int ((adv (pfO g p) (g 6) (wdF (plO g p)) (k + 1)).2)), some (.int (nI (k + 1))), v]) (by rw [hst]) ?_
          exact ih (k + 1) _ _ (by omega) (by omega) hfr
  refine v_iconst (v := (-1)) C dX4_adviseTold_0 (by decide) ?_
  refine v_istore_n (lo' := [some (.ref (Z.ad 0)), some (.int (nI p)), some (.int (-1)), none, none, none]) C dX4_adviseTold_1 rfl (Nat.le_of_ble_eq_true rfl) rfl rfl ?_
  refine v_aload_n C dX4_adviseTold_2 rfl rfl ?_
  refine v_iload_n C dX4_adviseTold_3 rfl rfl ?_
  refine v_callVi (n := 1) (as := [.int (nI p)]) C (c_tryPoster _ Z p (nlO g p) nf (wdO g) g hp hot hnf hf5 hl.1 hl.2 (IvM_W hI)) (gv (tg4 96 rfl rfl) (tg4 98 rfl rfl) (tg0 23 rfl rfl) (tg1 6 rfl rfl) (tg4 99 rfl rfl)) (by decide +kernel) ⟨Nat.le_of_ble_eq_true rfl, Nat.le_of_ble_eq_true rfl⟩ rfl cx_M rfl rfl (Nat.le_of_ble_eq_true rfl) dX4_adviseTold_4 ⟨Nat.le_of_ble_eq_true rfl, Nat.le_of_ble_eq_true rfl⟩ (fun r4 g4 hp4 => ?_)
  obtain ⟨hfr, hq⟩ := hp4
  have hr : r4 = wdF (plO g p) := by rw [plQ_wd hq]; unfold plO; rw [enf]
  subst hr
  refine v_istore_n (lo' := [some (.ref (Z.ad 0)), some (.int (nI p)), some (.int (-1)), some (.int (wdF (plO g p))), none, none]) C dX4_adviseTold_7 rfl (Nat.le_of_ble_eq_true rfl) rfl rfl ?_
  refine v_iconst (v := 0) C dX4_adviseTold_8 (by decide) ?_
  refine v_topi (y := nI 0) rfl ?_
  refine v_istore (lo' := [some (.ref (Z.ad 0)), some (.int (nI p)), some (.int (-1)), some (.int (wdF (plO g p))), some (.int (nI 0)), none]) C dX4_adviseTold_9 (Nat.le_of_ble_eq_true rfl) rfl rfl ?_
  exact loop (10 * nf + 1) 0 _ none (by omega) (by omega) hfr
def cdAdvise (g : MG) (p : Int32) : Nat := if isN (npO g) p = false then 1 else 0
set_option maxRecDepth 100000 in
theorem c_advise (l : Launch) (Z : Zc) (p : Int32) (g : MG) (hI : IvM g) : MI l yX4_advise cX4_advise 2 (some .int) (rmz 5 140 0 0) Z [.ref (Z.ad 0), .int p] g (PM g (cdAdvise g p) (anAdvise g (iz p)) (g)) := by
  refine ent_i (own := RX4) (lo := [some (.ref (Z.ad 0)), some (.int p)]) (by decide) rfl (by simp [lg_sl, Value.category]) rfl (fun P hl C ret => ?_)
  obtain ⟨⟨nf, hf5, hnf⟩, ⟨np, hp6, hnp⟩, hot, hnl, htn, his, hwd, htk⟩ := id hI
  have enf : nfO g = nf := by unfold nfO; rw [hnf]; exact iz_nI (by omega)
  have enp : npO g = np := by unfold npO; rw [hnp]; exact iz_nI (by omega)
  refine v_aload_n C dX4_advise_0 rfl rfl ?_
  refine v_iconst (v := 0) C dX4_advise_1 (by decide) ?_
  refine v_put C inG4 rfl tyX4 tyX4_ok nmX4 0 (by decide) (tg3 195 rfl rfl) rfl rfl (ty := .int) rfl rfl rfl cx_M (Nat.le_of_ble_eq_true rfl) rfl (by omega) cx_M dX4_advise_2 ?_
  refine v_aload_n C dX4_advise_5 rfl rfl ?_
  refine v_iload_n C dX4_advise_6 rfl rfl ?_
  refine v_callVi (n := 1) (as := [.int p]) C (c_isPoster _ Z np p (wr g 0 0 0) hnp hp6) (gv (tg4 87 rfl rfl) (tg4 89 rfl rfl) (tg0 22 rfl rfl) (tg1 6 rfl rfl) (tg4 90 rfl rfl)) (by decide +kernel) ⟨Nat.le_of_ble_eq_true rfl, Nat.le_of_ble_eq_true rfl⟩ rfl cx_M rfl rfl (Nat.le_of_ble_eq_true rfl) dX4_advise_7 ⟨Nat.le_of_ble_eq_true rfl, Nat.le_of_ble_eq_true rfl⟩ (fun r7 g7 hp7 => ?_)
  obtain ⟨rfl, hg7⟩ := hp7
  rw [hg7]
  refine v_if_eq (tgt := 21) C dX4_advise_10 (by decide) (fun h10 => ?_) (fun h10 => ?_)
  · have k10 := bI_0.mp h10
    refine v_aload_n C dX4_advise_21 rfl rfl ?_
    refine v_iconst (v := 1) C dX4_advise_22 (by decide) ?_
    refine v_callVi (n := 1) (as := [.int 1]) C (c_no _ Z 1 (wr g 0 0 0)) (gv (tg4 48 rfl rfl) (tg4 50 rfl rfl) (tg0 20 rfl rfl) (tg1 6 rfl rfl) (tg4 51 rfl rfl)) (by decide +kernel) ⟨Nat.le_of_ble_eq_true rfl, Nat.le_of_ble_eq_true rfl⟩ rfl cx_M rfl rfl (Nat.le_of_ble_eq_true rfl) dX4_advise_23 ⟨Nat.le_of_ble_eq_true rfl, Nat.le_of_ble_eq_true rfl⟩ (fun r23 g23 hp23 => ?_)
    obtain ⟨rfl, hg23⟩ := hp23
    rw [hg23]
    exact ret _ _ _ _ dX4_advise_26 (PM.no (k := 1) (by unfold cdAdvise; rw [enp, if_pos k10]) (by decide) rfl (fun j h1 h2 => wr_ne _ _ _ _ (Or.inr (by omega))) (fun q h1 h2 => wr_row _ _ _ _ (by omega)) (fun q hq => wr_row _ _ _ _ (by omega)))
  · have k10 := bI_1.mp h10
    have hcd : cdAdvise g p = 0 := by unfold cdAdvise; rw [enp, if_neg (by rw [k10]; decide)]
    obtain ⟨a, ha, rfl⟩ := isN_ex k10
    have ea : iz (nI a) = a := iz_nI (by omega)
    refine v_aload_n C dX4_advise_13 rfl rfl ?_
    refine v_iload_n C dX4_advise_14 rfl rfl ?_
    refine v_callVi (n := 1) (as := [.int (nI a)]) C (c_adviseTold _ Z a (wr g 0 0 0) (IvM_eq hI rfl rfl (fun k h1 h2 => wr_row _ _ _ _ (by omega))) (by omega)) (gv (tg4 203 rfl rfl) (tg4 205 rfl rfl) (tg0 38 rfl rfl) (tg1 6 rfl rfl) (tg4 206 rfl rfl)) (by decide +kernel) ⟨Nat.le_of_ble_eq_true rfl, Nat.le_of_ble_eq_true rfl⟩ rfl cx_M rfl rfl (Nat.le_of_ble_eq_true rfl) dX4_advise_15 ⟨Nat.le_of_ble_eq_true rfl, Nat.le_of_ble_eq_true rfl⟩ (fun r15 g15 hp15 => ?_)
    obtain ⟨hfr, hr⟩ := hp15
    refine v_goto (tgt := 26) C dX4_advise_18 (by decide) ?_
    exact ret _ _ _ _ dX4_advise_26 ⟨(frP.RE hfr).1.trans (by rw [hcd]), fun _ => by rw [ea]; exact hr, (frP.RE hfr).2.1, (frP.RE hfr).2.2⟩
def outO (g : MG) (p f c : Nat) : Nat := outN (g 18) (tkO g) (wdO g) p f c (nlO g p)
def laO (g : MG) (p : Nat) : Nat → Int32
  | 0 => 400
  | k + 1 => if nI (outO g p (k / 10) (k % 10)) ≤ 0 then laO g p k else mn (laO g p k) (mx0 ((400 - g 8 k + nI (outO g p (k / 10) (k % 10)) - 1) / nI (outO g p (k / 10) (k % 10))))
def cdLasts (g : MG) (p : Int32) : Nat := if isN (npO g) p = false then 1 else if g 15 (iz p) = 0 then 2 else 0
set_option maxRecDepth 100000 in
theorem c_lasts (l : Launch) (Z : Zc) (p : Int32) (g : MG) (hI : IvM g) : MI l yX4_lasts cX4_lasts 5 (some .int) (rmz 3 60 0 0) Z [.ref (Z.ad 0), .int p] g (PM g (cdLasts g p) (laO g (iz p) 50) (g)) := by
  refine ent_i (own := RX4) (lo := [some (.ref (Z.ad 0)), some (.int p), none, none, none]) (by decide) rfl (by simp [lg_sl, Value.category]) rfl (fun P hl C ret => ?_)
  obtain ⟨⟨nf, hf5, hnf⟩, ⟨np, hp6, hnp⟩, hot, hnl, htn, his, hwd, htk⟩ := id hI
  have enf : nfO g = nf := by unfold nfO; rw [hnf]; exact iz_nI (by omega)
  have enp : npO g = np := by unfold npO; rw [hnp]; exact iz_nI (by omega)
  refine v_aload_n C dX4_lasts_0 rfl rfl ?_
  refine v_iconst (v := 0) C dX4_lasts_1 (by decide) ?_
  refine v_put C inG4 rfl tyX4 tyX4_ok nmX4 0 (by decide) (tg3 195 rfl rfl) rfl rfl (ty := .int) rfl rfl rfl cx_M (Nat.le_of_ble_eq_true rfl) rfl (by omega) cx_M dX4_lasts_2 ?_
  refine v_aload_n C dX4_lasts_5 rfl rfl ?_
  refine v_iload_n C dX4_lasts_6 rfl rfl ?_
  refine v_callVi (n := 1) (as := [.int p]) C (c_isPoster _ Z np p (wr g 0 0 0) hnp hp6) (gv (tg4 87 rfl rfl) (tg4 89 rfl rfl) (tg0 22 rfl rfl) (tg1 6 rfl rfl) (tg4 90 rfl rfl)) (by decide +kernel) ⟨Nat.le_of_ble_eq_true rfl, Nat.le_of_ble_eq_true rfl⟩ rfl cx_M rfl rfl (Nat.le_of_ble_eq_true rfl) dX4_lasts_7 ⟨Nat.le_of_ble_eq_true rfl, Nat.le_of_ble_eq_true rfl⟩ (fun r7 g7 hp7 => ?_)
  obtain ⟨rfl, hg7⟩ := hp7
  rw [hg7]
  refine v_if_ne (tgt := 19) C dX4_lasts_10 (by decide) (fun h10 => ?_) (fun h10 => ?_)
  · have k10 := bI_1.mp h10
    obtain ⟨a, ha, rfl⟩ := isN_ex k10
    have ea : iz (nI a) = a := iz_nI (by omega)
    have hl := IvM_nl hI (show a < 6 by omega)
    refine v_aload_n C dX4_lasts_19 rfl rfl ?_
    refine v_get C inG4 rfl 15 (by decide) (tg3 210 rfl rfl) rfl cx_M rfl dX4_lasts_20 ?_
    refine v_iload_n C dX4_lasts_23 rfl rfl ?_
    refine v_ialdN (a := a) C cxA15 (by omega) dX4_lasts_24 ?_
    refine v_topi (y := g 15 a) rfl ?_
    refine v_if_ne (tgt := 34) C dX4_lasts_25 (by decide) (fun h25 => ?_) (fun h25 => ?_)
    · have hcd : cdLasts g (nI a) = 0 := by unfold cdLasts; rw [enp, if_neg (by rw [k10]; decide), ea, if_neg h25]
      have h1 : g 15 a = 1 := (his a (by omega)).resolve_left h25
      refine v_sipush (v := 400) C dX4_lasts_34 (by decide) ?_
      refine v_topi (y := laO g a 0) rfl ?_
      refine v_istore_n (lo' := [some (.ref (Z.ad 0)), some (.int (nI a)), some (.int (laO g a 0)), none, none]) C dX4_lasts_37 rfl (Nat.le_of_ble_eq_true rfl) rfl rfl ?_
      refine v_iconst (v := 0) C dX4_lasts_38 (by decide) ?_
      refine v_topi (y := nI 0) rfl ?_
      refine v_istore_n (lo' := [some (.ref (Z.ad 0)), some (.int (nI a)), some (.int (laO g a 0)), some (.int (nI 0)), none]) C dX4_lasts_39 rfl (Nat.le_of_ble_eq_true rfl) rfl rfl ?_
      have loop : ∀ (n k : Nat) (v : Option Value), 50 - k < n → k ≤ 50 → V P (rmz 3 60 0 0) Z [some (.ref (Z.ad 0)), some (.int (nI a)), some (.int (laO g a k)), some (.int (nI k)), v] 40 [] (wr g 0 0 0) 0 0 := by
        intro n
        induction n with
        | zero => intro k v hn; exact absurd hn (Nat.not_lt_zero _)
        | succ n ih =>
          intro k v hn hk
          refine v_iload_n C dX4_lasts_40 rfl rfl ?_
          refine v_bipush (v := 50) C dX4_lasts_41 (by decide) ?_
          refine v_icmp_ge (tgt := 99) C dX4_lasts_43 (by decide) (fun h43 => ?_) (fun h43 => ?_)
          · have hkn : k = 50 := Nat.le_antisymm hk ((nI_leI (a := 50) (by decide) (by omega)).mp h43)
            subst hkn
            refine v_iload_n C dX4_lasts_99 rfl rfl ?_
            exact ret _ _ _ _ dX4_lasts_100 ⟨by rw [hcd]; rfl, fun _ => by rw [ea], RE.of (fun j h1 h2 => wr_ne _ _ _ _ (Or.inr (by omega))) (fun q h1 h2 => wr_row _ _ _ _ (by omega)), fun q hq => wr_row _ _ _ _ (by omega)⟩
          · have hkn : k < 50 := Nat.lt_of_not_le fun q => h43 ((nI_leI (a := 50) (by decide) (by omega)).mpr q)
            refine v_aload_n C dX4_lasts_46 rfl rfl ?_
            refine v_iload_n C dX4_lasts_47 rfl rfl ?_
            refine v_iload_n C dX4_lasts_48 rfl rfl ?_
            refine v_bipush (v := 10) C dX4_lasts_49 (by decide) ?_
            refine v_idiv C dX4_lasts_51 (by decide) ?_
            refine v_topi (y := nI (k / 10)) (nI_div (b := 10) (by omega) (by decide)) ?_
            refine v_iload_n C dX4_lasts_52 rfl rfl ?_
            refine v_bipush (v := 10) C dX4_lasts_53 (by decide) ?_
            refine v_irem C dX4_lasts_55 (by decide) ?_
            refine v_topi (y := nI (k % 10)) (nI_mod10 (by omega)) ?_
            refine v_callVi (n := 3) (as := [.int (nI a), .int (nI (k / 10)), .int (nI (k % 10))]) C (c_outOf _ Z a (nlO g a) (k / 10) (k % 10) (wdO g) (tkO g) (wr g 0 0 0) (by omega) hl.1 hl.2 (IvM_W hI) (by omega) (by omega) (IvM_T hI (by omega) h1)) (gv (tg4 127 rfl rfl) (tg4 129 rfl rfl) (tg0 28 rfl rfl) (tg1 6 rfl rfl) (tg4 130 rfl rfl)) (by decide +kernel) ⟨Nat.le_of_ble_eq_true rfl, Nat.le_of_ble_eq_true rfl⟩ rfl cx_M rfl rfl (Nat.le_of_ble_eq_true rfl) dX4_lasts_56 ⟨Nat.le_of_ble_eq_true rfl, Nat.le_of_ble_eq_true rfl⟩ (fun r56 g56 hp56 => ?_)
            obtain ⟨hr56, hg56⟩ := hp56
            rw [hg56]
            have hr56 : r56 = nI (outO g a (k / 10) (k % 10)) := hr56
            subst hr56
            refine v_istore (lo' := [some (.ref (Z.ad 0)), some (.int (nI a)), some (.int (laO g a k)), some (.int (nI k)), some (.int (nI (outO g a (k / 10) (k % 10))))]) C dX4_lasts_59 (Nat.le_of_ble_eq_true rfl) rfl rfl ?_
            refine v_iload C dX4_lasts_61 rfl ?_
            refine v_if_le (tgt := 93) C dX4_lasts_63 (by decide) (fun h63 => ?_) (fun h63 => ?_)
            · refine v_iinc (lo' := [some (.ref (Z.ad 0)), some (.int (nI a)), some (.int (laO g a k)), some (.int ((nI k) + 1)), some (.int (nI (outO g a (k / 10) (k % 10))))]) C dX4_lasts_93 rfl rfl rfl rfl ?_
              refine v_lo (lo' := [some (.ref (Z.ad 0)), some (.int (nI a)), some (.int (laO g a k)), some (.int (nI (k + 1))), some (.int (nI (outO g a (k / 10) (k % 10))))]) (by rw [← nI_1 k]) ?_
              refine v_goto (tgt := 40) C dX4_lasts_96 (by decide) ?_
              refine v_lo (lo' := [some (.ref (Z.ad 0)), some (.int (nI a)), some (.int (laO g a (k + 1))), some (.int (nI (k + 1))), some (.int (nI (outO g a (k / 10) (k % 10))))]) (by rw [laO, if_pos h63]) ?_
              exact ih (k + 1) _ (by omega) (by omega)
            · refine v_iload_n C dX4_lasts_66 rfl rfl ?_
              refine v_iconst (v := 0) C dX4_lasts_67 (by decide) ?_
              refine v_sipush (v := 400) C dX4_lasts_68 (by decide) ?_
              refine v_aload_n C dX4_lasts_71 rfl rfl ?_
              refine v_get C inG4 rfl 8 (by decide) (tg3 203 rfl rfl) rfl cx_M rfl dX4_lasts_72 ?_
              refine v_iload_n C dX4_lasts_75 rfl rfl ?_
              refine v_ialdN (a := k) C cxA8 (by omega) dX4_lasts_76 ?_
              refine v_isub C dX4_lasts_77 ?_
              refine v_iload C dX4_lasts_78 rfl ?_
              refine v_iadd C dX4_lasts_80 ?_
              refine v_iconst (v := 1) C dX4_lasts_81 (by decide) ?_
              refine v_isub C dX4_lasts_82 ?_
              refine v_iload C dX4_lasts_83 rfl ?_
              refine v_idiv C dX4_lasts_85 (fun q => h63 (by rw [q]; decide)) ?_
              refine v_mmax C (tg4 143 rfl rfl) (tg1 182 rfl rfl) (tg1 14 rfl rfl) (tg1 183 rfl rfl) (Nat.le_of_ble_eq_true rfl) (Nat.le_of_ble_eq_true rfl) (Nat.le_of_ble_eq_true rfl) (Nat.le_of_ble_eq_true rfl) dX4_lasts_86 ?_
              refine v_topi (y := mx0 ((400 - g 8 k + nI (outO g a (k / 10) (k % 10)) - 1) / nI (outO g a (k / 10) (k % 10)))) rfl ?_
              refine v_mmin C (tg4 67 rfl rfl) (tg2 207 rfl rfl) (tg1 14 rfl rfl) (tg2 208 rfl rfl) (Nat.le_of_ble_eq_true rfl) (Nat.le_of_ble_eq_true rfl) (Nat.le_of_ble_eq_true rfl) (Nat.le_of_ble_eq_true rfl) dX4_lasts_89 ?_
              refine v_topi (y := laO g a (k + 1)) (by rw [laO, if_neg h63]; rfl) ?_
              refine v_istore_n (lo' := [some (.ref (Z.ad 0)), some (.int (nI a)), some (.int (laO g a (k + 1))), some (.int (nI k)), some (.int (nI (outO g a (k / 10) (k % 10))))]) C dX4_lasts_92 rfl (Nat.le_of_ble_eq_true rfl) rfl rfl ?_
              refine v_iinc (lo' := [some (.ref (Z.ad 0)), some (.int (nI a)), some (.int (laO g a (k + 1))), some (.int ((nI k) + 1)), some (.int (nI (outO g a (k / 10) (k % 10))))]) C dX4_lasts_93 rfl rfl rfl rfl ?_
              refine v_lo (lo' := [some (.ref (Z.ad 0)), some (.int (nI a)), some (.int (laO g a (k + 1))), some (.int (nI (k + 1))), some (.int (nI (outO g a (k / 10) (k % 10))))]) (by rw [← nI_1 k]) ?_
              refine v_goto (tgt := 40) C dX4_lasts_96 (by decide) ?_
              exact ih (k + 1) _ (by omega) (by omega)
      exact loop 51 0 _ (by omega) (by omega)
    · refine v_aload_n C dX4_lasts_28 rfl rfl ?_
      refine v_iconst (v := 2) C dX4_lasts_29 (by decide) ?_
      refine v_callVi (n := 1) (as := [.int 2]) C (c_no _ Z 2 (wr g 0 0 0)) (gv (tg4 48 rfl rfl) (tg4 50 rfl rfl) (tg0 20 rfl rfl) (tg1 6 rfl rfl) (tg4 51 rfl rfl)) (by decide +kernel) ⟨Nat.le_of_ble_eq_true rfl, Nat.le_of_ble_eq_true rfl⟩ rfl cx_M rfl rfl (Nat.le_of_ble_eq_true rfl) dX4_lasts_30 ⟨Nat.le_of_ble_eq_true rfl, Nat.le_of_ble_eq_true rfl⟩ (fun r30 g30 hp30 => ?_)
      obtain ⟨rfl, hg30⟩ := hp30
      rw [hg30]
      exact ret _ _ _ _ dX4_lasts_33 (PM.no (k := 2) (by unfold cdLasts; rw [enp, if_neg (by rw [k10]; decide), ea, if_pos h25]) (by decide) rfl (fun j h1 h2 => wr_ne _ _ _ _ (Or.inr (by omega))) (fun q h1 h2 => wr_row _ _ _ _ (by omega)) (fun q hq => wr_row _ _ _ _ (by omega)))
  · have k10 := bI_0.mp h10
    refine v_aload_n C dX4_lasts_13 rfl rfl ?_
    refine v_iconst (v := 1) C dX4_lasts_14 (by decide) ?_
    refine v_callVi (n := 1) (as := [.int 1]) C (c_no _ Z 1 (wr g 0 0 0)) (gv (tg4 48 rfl rfl) (tg4 50 rfl rfl) (tg0 20 rfl rfl) (tg1 6 rfl rfl) (tg4 51 rfl rfl)) (by decide +kernel) ⟨Nat.le_of_ble_eq_true rfl, Nat.le_of_ble_eq_true rfl⟩ rfl cx_M rfl rfl (Nat.le_of_ble_eq_true rfl) dX4_lasts_15 ⟨Nat.le_of_ble_eq_true rfl, Nat.le_of_ble_eq_true rfl⟩ (fun r15 g15 hp15 => ?_)
    obtain ⟨rfl, hg15⟩ := hp15
    rw [hg15]
    exact ret _ _ _ _ dX4_lasts_18 (PM.no (k := 1) (by unfold cdLasts; rw [enp, if_pos k10]) (by decide) rfl (fun j h1 h2 => wr_ne _ _ _ _ (Or.inr (by omega))) (fun q h1 h2 => wr_row _ _ _ _ (by omega)) (fun q hq => wr_row _ _ _ _ (by omega)))
end
section
/-! System.arraycopy over the world -/
theorem cx_row_ne (Y : Yc) (ad : Nat → Nat) (df : Nat) {g g' : MG} {k : Nat} (hr : ∀ q, q ≠ k → g' q = g q) (hk : lk k = false) {q : Nat} (hq : q ≠ k) : cx Y ad df g' q = cx Y ad df g q := by
  have n31 : 31 ≠ k := by rintro rfl; simp [lk] at hk
  have n32 : 32 ≠ k := by rintro rfl; simp [lk] at hk
  unfold cx
  rw [hr 31 n31, hr 32 n32, hr q hq]
  refine cS_nl Y ad df _ _ (fun p hp => ?_) _ _
  have : 101 + 10 * p ≠ k := by rintro rfl; rw [lk_p hp] at hk; cases hk
  rw [hr _ this]
theorem Wf_row {g g' : MG} (h : Wf g) {k : Nat} (hr : ∀ q, q ≠ k → g' q = g q) (hk : lk k = false) (hx : ∀ i, i < 24 → k ≠ 200 + 10 * i) : Wf g' := by
  obtain ⟨⟨n, hn, e1, hf⟩, ⟨n2, hn2, e2⟩, h3⟩ := h
  have n31 : 31 ≠ k := by rintro rfl; simp [lk] at hk
  have n32 : 32 ≠ k := by rintro rfl; simp [lk] at hk
  refine ⟨⟨n, hn, by rw [hr _ n31]; exact e1, fun i hi => ?_⟩, ⟨n2, hn2, by rw [hr _ n32]; exact e2⟩, fun p hp => ?_⟩
  · rw [hr _ (fun q => hx i hi q.symm)]; exact hf i hi
  · have : 101 + 10 * p ≠ k := by rintro rfl; rw [lk_p hp] at hk; cases hk
    rw [hr _ this]; exact h3 p hp
theorem cx_top (Y : Yc) (ad : Nat → Nat) (df : Nat) (g : MG) {k : Nat} (h : 501 ≤ k) : cx Y ad df g k = none := by
  have b1 : k ≠ 0 := by omega
  have b2 : ¬ k < 5 := by omega
  have b3 : ¬ k < 26 := by omega
  have b4 : ¬ k < 30 := by omega
  have b5 : ¬ k = 30 := by omega
  have b6 : ¬ k = 31 := by omega
  have b7 : ¬ k = 32 := by omega
  have b8 : ¬ k = 33 := by omega
  have b9 : ¬ k < 36 := by omega
  have b10 : ¬ k = 36 := by omega
  have b11 : ¬ k = 37 := by omega
  have b12 : ¬ k < 40 := by omega
  have b13 : ¬ k < 90 := by omega
  have b14 : ¬ k < 100 := by omega
  have b15 : ¬ k < 160 := by omega
  have b16 : ¬ k < 200 := by omega
  have b17 : ¬ k < 440 := by omega
  have b18 : ¬ k = 500 := by omega
  simp only [cx, cS, b1, b2, b3, b4, b5, b6, b7, b8, b9, b10, b11, b12, b13, b14, b15, b16, b17, b18, if_false]
/-- the world as a list of cells -/
def wL (Y : Yc) (ad : Nat → Nat) (df : Nat) (g : MG) : va_W := (List.range 501).filterMap (fun k => (cx Y ad df g k).map (fun e => (ad k, e)))
theorem wL_mem {Y : Yc} {ad : Nat → Nat} {df : Nat} {g : MG} {q : Nat × va_E} : q ∈ wL Y ad df g ↔ ∃ k, cx Y ad df g k = some q.2 ∧ q.1 = ad k := by
  unfold wL
  rw [List.mem_filterMap]
  constructor
  · rintro ⟨k, -, h⟩
    cases hc : cx Y ad df g k with
    | none => rw [hc] at h; cases h
    | some e => rw [hc] at h; cases h; exact ⟨k, hc, rfl⟩
  · rintro ⟨k, h1, h2⟩
    refine ⟨k, List.mem_range.mpr (Nat.lt_of_not_le fun q => ?_), ?_⟩
    · rw [cx_top Y ad df g q] at h1; cases h1
    · rw [h1, ← h2]; rfl
theorem wL_inj {D : va_G} {Y : Yc} {ad : Nat → Nat} {df z : Nat} {g : MG} {H : Heap} (h : Hw D Y ad df z g H) : ∀ (n i j : Nat) (p q : Nat × va_E), ((List.range n).filterMap (fun k => (cx Y ad df g k).map (fun e => (ad k, e))))[i]? = some p → ((List.range n).filterMap (fun k => (cx Y ad df g k).map (fun e => (ad k, e))))[j]? = some q → p.1 = q.1 → i = j := by
  intro n
  induction n with
  | zero => intro i j p q hi; simp at hi
  | succ n ih =>
    intro i j p q hi hj hpq
    rw [List.range_succ, List.filterMap_append] at hi hj
    generalize hw : (List.range n).filterMap (fun k => (cx Y ad df g k).map (fun e => (ad k, e))) = w at ih hi hj
    have old : ∀ (i : Nat) (p : Nat × va_E), w[i]? = some p → ∃ k, k < n ∧ cx Y ad df g k ≠ none ∧ p.1 = ad k := by
      intro i p hp
      have hm := List.mem_of_getElem? hp
      rw [← hw, List.mem_filterMap] at hm
      obtain ⟨k, hk, he⟩ := hm
      cases hc : cx Y ad df g k with
      | none => rw [hc] at he; cases he
      | some e => rw [hc] at he; cases he; exact ⟨k, List.mem_range.mp hk, by rw [hc]; simp, rfl⟩
    have new : ∀ (i : Nat) (p : Nat × va_E), w.length ≤ i → (w ++ List.filterMap (fun k => (cx Y ad df g k).map (fun e => (ad k, e))) [n])[i]? = some p → i = w.length ∧ cx Y ad df g n ≠ none ∧ p.1 = ad n := by
      intro i p hle hp
      rw [List.getElem?_append_right hle] at hp
      cases hc : cx Y ad df g n with
      | none => simp [List.filterMap, hc] at hp
      | some e =>
        have e1 : List.filterMap (fun k => (cx Y ad df g k).map (fun e => (ad k, e))) [n] = [(ad n, e)] := by simp [List.filterMap, hc]
        rw [e1] at hp
        have hlt := (List.getElem?_eq_some_iff.mp hp).1
        have h0 : i - w.length = 0 := by simpa using hlt
        rw [h0] at hp
        cases hp
        exact ⟨by omega, by simp, rfl⟩
    by_cases hi2 : i < w.length <;> by_cases hj2 : j < w.length
    · rw [List.getElem?_append_left hi2] at hi
      rw [List.getElem?_append_left hj2] at hj
      exact ih i j p q hi hj hpq
    · rw [List.getElem?_append_left hi2] at hi
      obtain ⟨k, hk, h1, h2⟩ := old i p hi
      obtain ⟨-, h3, h4⟩ := new j q (by omega) hj
      have := h.2.1 k n h1 h3 (by rw [← h2, hpq, h4])
      omega
    · rw [List.getElem?_append_left hj2] at hj
      obtain ⟨k, hk, h1, h2⟩ := old j q hj
      obtain ⟨-, h3, h4⟩ := new i p (by omega) hi
      have := h.2.1 k n h1 h3 (by rw [← h2, ← hpq, h4])
      omega
    · obtain ⟨h1, -⟩ := new i p (by omega) hi
      obtain ⟨h2, -⟩ := new j q (by omega) hj
      omega
theorem Hw_P {D : va_G} {Y : Yc} {ad : Nat → Nat} {df z : Nat} {g : MG} {H : Heap} (h : Hw D Y ad df z g H) : va_P D vwCl (wL Y ad df g) H ∧ va_D (A0 z) (wL Y ad df g) := by
  refine ⟨fun i q hq => ?_, fun i j p q hi hj hpq => wL_inj h 501 i j p q hi hj hpq, fun i q hq => ?_⟩
  · obtain ⟨k, h1, h2⟩ := wL_mem.mp (List.mem_of_getElem? hq)
    have := (h.1 k q.2 h1).1
    rw [← h2] at this
    exact this
  · obtain ⟨k, h1, h2⟩ := wL_mem.mp (List.mem_of_getElem? hq)
    have := (h.1 k q.2 h1).2
    rw [← h2] at this
    exact this
/-- one cell of the list set anew: the world with that row anew -/
theorem Hw_set {D : va_G} {Y : Yc} {ad : Nat → Nat} {df z : Nat} {g g' : MG} {H H1 : Heap} (h : Hw D Y ad df z g H) {k i : Nat} {e e' : va_E} (hr : ∀ q, q ≠ k → g' q = g q) (hk : lk k = false) (hx : ∀ i, i < 24 → k ≠ 200 + 10 * i) (hc : cx Y ad df g k = some e) (hi : (wL Y ad df g)[i]? = some (ad k, e)) (hc' : cx Y ad df g' k = some e') (hP : va_P D vwCl ((wL Y ad df g).set i (ad k, e')) H1) : Hw D Y ad df z g' H1 := by
  have hne : ∀ q, cx Y ad df g' q ≠ none ↔ cx Y ad df g q ≠ none := by
    intro q
    by_cases hq : q = k
    · subst hq; rw [hc, hc']; simp
    · rw [cx_row_ne Y ad df hr hk hq]
  have hil := (List.getElem?_eq_some_iff.mp hi).1
  refine ⟨fun q e0 hq => ?_, fun a b ha hb hab => h.2.1 a b ((hne a).mp ha) ((hne b).mp hb) hab, Wf_row h.2.2 hr hk hx⟩
  by_cases hqk : q = k
  · subst hqk
    rw [hc'] at hq
    cases hq
    exact ⟨hP i _ (List.getElem?_set_self hil), (h.1 q e hc).2⟩
  · rw [cx_row_ne Y ad df hr hk hqk] at hq
    obtain ⟨j, hj⟩ := List.getElem?_of_mem (wL_mem.mpr ⟨q, hq, rfl⟩ : ((ad q, e0) : Nat × va_E) ∈ wL Y ad df g)
    have hij : i ≠ j := by
      rintro rfl
      rw [hi] at hj
      have h1 : ad k = ad q := congrArg (fun x => (Option.getD x (0, e)).1) hj
      exact hqk (h.2.1 q k (by rw [hq]; simp) (by rw [hc]; simp) h1.symm)
    exact ⟨hP j _ (by rw [List.getElem?_set_ne hij]; exact hj), (h.1 q e0 hq).2⟩
section VCP
variable {P : Pm} {R : Room} {Z : Zc} {cc : ByteArray} {own : String} {lo : Lo} {pc : Nat} {rest : List Value} {g : MG} {cs sl : Nat}
theorem v_copy (C : Cx P Z cc own) {idx : Nat} (w1 : Cond.methodLink own idx arraycopyName ∈ wsG) (w2 : Cond.native arraycopyName ∈ wsG) (w3 : Cond.static arraycopyName ∈ wsG) (w4 : Cond.initialized "java/lang/System" ∈ wsG) {ks kd n0 n1 a b n : Nat} (hks : cx Z.Y Z.ad Z.df g ks = some (.inl (Z.Y.1, n0, .inl (g ks)))) (hkd : ∀ g' : MG, (∀ q, q ≠ kd → g' q = g q) → cx Z.Y Z.ad Z.df g' kd = some (.inl (Z.Y.1, n1, .inl (g' kd)))) (hlk : lk kd = false) (hx : ∀ i, i < 24 → kd ≠ 200 + 10 * i) (h4 : a + n ≤ n0) (h5 : b + n ≤ n1) (hb : n0 < 1000000 ∧ n1 < 1000000)
    (hframes : 1 ≤ R.frames) (hlocals : (rest.map fun v => v.category).sum + (nativeFrameWords "java/lang/System" "arraycopy" 5 + 11) ≤ R.locals) (hdg : decode cc pc = .ok (.invokestatic idx, 3)) (kk : V P R Z lo (pc + 3) rest (rwr g kd (va_cpy (g ks) (g kd) a b n)) cs sl) : V P R Z lo pc (.int (nI n) :: .int (nI b) :: .ref (Z.ad kd) :: .int (nI a) :: .ref (Z.ad ks) :: rest) g cs sl := by
  obtain ⟨p, l, e, s, m, args, below, meth, c, Q, nL⟩ := P
  intro ls H locs hl hw hS
  have hkd0 := hkd g (fun _ _ => rfl)
  obtain ⟨hP, hD⟩ := Hw_P hw
  obtain ⟨i, hi⟩ := List.getElem?_of_mem (wL_mem.mpr ⟨ks, hks, rfl⟩ : ((Z.ad ks, .inl (Z.Y.1, n0, .inl (g ks))) : Nat × va_E) ∈ wL Z.Y Z.ad Z.df g)
  obtain ⟨j, hj⟩ := List.getElem?_of_mem (wL_mem.mpr ⟨kd, hkd0, rfl⟩ : ((Z.ad kd, .inl (Z.Y.1, n1, .inl (g kd))) : Nat × va_E) ∈ wL Z.Y Z.ad Z.df g)
  have ea : (nI a).toNatClampNeg = a := nI_clamp (by omega)
  have eb : (nI b).toNatClampNeg = b := nI_clamp (by omega)
  have en : (nI n).toNatClampNeg = n := nI_clamp (by omega)
  refine va_copyi (D := Z.D) C.1 C.2.1 (C.2.2.1.trans hl.2.1.symm) C.2.2.2.1 (C.2.2.2.2.1 _ w1) (C.2.2.2.2.1 _ w2) (C.2.2.2.2.1 _ w3) (C.2.2.2.2.1 _ w4) C.2.2.2.2.2.1 hP hD hS i j 0 0 hi hj rfl rfl rfl (nI_pos (by omega)) (nI_pos (by omega)) (nI_pos (by omega)) (by rw [ea, en]; exact h4) (by rw [eb, en]; exact h5) (fun _ _ => rfl) hframes hlocals hdg (fun H1 locs1 hP1 hD1 hS1 => ?_)
  rw [ea, eb, en] at hP1
  have hr : ∀ q, q ≠ kd → rwr g kd (va_cpy (g ks) (g kd) a b n) q = g q := fun q hq => rwr_ne g kd _ hq
  have hc' := hkd _ hr
  rw [rwr_same] at hc'
  exact kk ls H1 locs1 hl (Hw_set hw hr hlk hx hkd0 hj hc' hP1) hS1
end VCP
end
section
/-! THE REFERENCE: set, print, strike -/
def lfl (L : List (Nat × TS)) (k : Nat) : Int32 := match L[k]? with
  | some q => q.2.2.1
  | none => 0
def lwd (L : List (Nat × TS)) (k : Nat) : Int32 := match L[k]? with
  | some q => q.2.2.2
  | none => 0
def cdSet (g : MG) (p : Int32) : Nat := if isN (npO g) p = false then 1 else match plO g (iz p) with
  | none => 2
  | some _ => 0
def setG (g : MG) (p : Nat) (a : List (Nat × TS) × (Nat → Int32)) : MG := fun k j =>
  if k = 18 then (if 4 * p ≤ j ∧ j < 4 * p + a.1.length then nI (lfn a.1 (j - 4 * p)) else g 18 j)
  else if k = 19 then (if 4 * p ≤ j ∧ j < 4 * p + a.1.length then lfl a.1 (j - 4 * p) else g 19 j)
  else if k = 20 then (if 4 * p ≤ j ∧ j < 4 * p + a.1.length then lwd a.1 (j - 4 * p) else g 20 j)
  else if k = 7 then (if j < 50 then g 7 j + a.2 j else g 7 j)
  else if k = 15 then (if j = p then 1 else g 15 j)
  else g k j
def stSet (g : MG) (p : Int32) : MG := if isN (npO g) p = false then g else match plO g (iz p) with
  | none => g
  | some a => setG g (iz p) a
def cdPrint (g : MG) (p c : Int32) : Nat := if isN (npO g) p = false then 1 else if inB c 1 500 = false then 2 else if g 15 (iz p) = 0 then 3 else 0
def gtO (g : MG) (p : Nat) (c : Int32) : Int32 := prO g (wdO g) p (nlO g p) (iz (g 12 p)) * c / 100
def stPrint (g : MG) (p c : Int32) : MG := if cdPrint g p c = 0 then wr (wr (rwr g 8 (fun j => if j < 50 then g 8 j + c * nI (outO g (iz p) (j / 10) (j % 10)) else g 8 j)) 0 3 (g 0 3 + gtO g (iz p) c)) 16 (iz p) (g 16 (iz p) + c) else g
def cdStrike (g : MG) (p : Int32) : Nat := if isN (npO g) p = false then 1 else if g 15 (iz p) = 0 then 2 else 0
def skO (g : MG) (p j : Nat) : Int32 := g 7 j - nI (outO g p (j / 10) (j % 10))
def brO (g : MG) (p j : Nat) : Int32 := mn (g 8 j / 400) (g 6 j - skO g p j)
def stStrike (g : MG) (p : Int32) : MG := if cdStrike g p = 0 then fun k j =>
  if k = 7 then (if j < 50 then skO g (iz p) j else g 7 j)
  else if k = 6 then (if j < 50 then g 6 j - brO g (iz p) j else g 6 j)
  else if k = 8 then (if j < 50 then g 8 j - 400 * brO g (iz p) j else g 8 j)
  else if k = 15 then (if j = iz p then 0 else g 15 j)
  else if k = 0 then (if j = 4 then g 0 4 + sumI (brO g (iz p)) 50 else g 0 j)
  else g k j
  else g
set_option maxRecDepth 100000 in
theorem c_set (l : Launch) (Z : Zc) (p : Int32) (g : MG) (hI : IvM g) : MI l yX4_set cX4_set 4 (some .int) (rmz 5 140 0 0) Z [.ref (Z.ad 0), .int p] g (PM g (cdSet g p) (wdF (plO g (iz p))) (stSet g p)) := by
  refine ent_i (own := RX4) (lo := [some (.ref (Z.ad 0)), some (.int p), none, none]) (by decide) rfl (by simp [lg_sl, Value.category]) rfl (fun P hl C ret => ?_)
  obtain ⟨⟨nf, hf5, hnf⟩, ⟨np, hp6, hnp⟩, hot, hnl, htn, his, hwd, htk⟩ := id hI
  have enf : nfO g = nf := by unfold nfO; rw [hnf]; exact iz_nI (by omega)
  have enp : npO g = np := by unfold npO; rw [hnp]; exact iz_nI (by omega)
  refine v_aload_n C dX4_set_0 rfl rfl ?_
  refine v_iconst (v := 0) C dX4_set_1 (by decide) ?_
  refine v_put C inG4 rfl tyX4 tyX4_ok nmX4 0 (by decide) (tg3 195 rfl rfl) rfl rfl (ty := .int) rfl rfl rfl cx_M (Nat.le_of_ble_eq_true rfl) rfl (by omega) cx_M dX4_set_2 ?_
  refine v_aload_n C dX4_set_5 rfl rfl ?_
  refine v_iload_n C dX4_set_6 rfl rfl ?_
  refine v_callVi (n := 1) (as := [.int p]) C (c_isPoster _ Z np p (wr g 0 0 0) hnp hp6) (gv (tg4 87 rfl rfl) (tg4 89 rfl rfl) (tg0 22 rfl rfl) (tg1 6 rfl rfl) (tg4 90 rfl rfl)) (by decide +kernel) ⟨Nat.le_of_ble_eq_true rfl, Nat.le_of_ble_eq_true rfl⟩ rfl cx_M rfl rfl (Nat.le_of_ble_eq_true rfl) dX4_set_7 ⟨Nat.le_of_ble_eq_true rfl, Nat.le_of_ble_eq_true rfl⟩ (fun r7 g7 hp7 => ?_)
  obtain ⟨rfl, hg7⟩ := hp7
  rw [hg7]
  refine v_if_ne (tgt := 19) C dX4_set_10 (by decide) (fun h10 => ?_) (fun h10 => ?_)
  · have k10 := bI_1.mp h10
    obtain ⟨a, ha, rfl⟩ := isN_ex k10
    have ea : iz (nI a) = a := iz_nI (by omega)
    have hl := IvM_nl hI (show a < 6 by omega)
    refine v_aload_n C dX4_set_19 rfl rfl ?_
    refine v_iload_n C dX4_set_20 rfl rfl ?_
    refine v_callVi (n := 1) (as := [.int (nI a)]) C (c_tryPoster _ Z a (nlO g a) nf (wdO g) (wr g 0 0 0) (by omega) hot hnf hf5 hl.1 hl.2 (IvM_W hI)) (gv (tg4 96 rfl rfl) (tg4 98 rfl rfl) (tg0 23 rfl rfl) (tg1 6 rfl rfl) (tg4 99 rfl rfl)) (by decide +kernel) ⟨Nat.le_of_ble_eq_true rfl, Nat.le_of_ble_eq_true rfl⟩ rfl cx_M rfl rfl (Nat.le_of_ble_eq_true rfl) dX4_set_21 ⟨Nat.le_of_ble_eq_true rfl, Nat.le_of_ble_eq_true rfl⟩ (fun r21 g21 hp21 => ?_)
    obtain ⟨hfr, hq⟩ := hp21
    have epl : plM (wr g 0 0 0) a (nlO g a) nf (wdO g) = plO g a := by unfold plO; rw [enf]; rfl
    rw [epl] at hq
    cases ho : plO g a with
    | none =>
      rw [ho] at hq
      have hq : r21 = -1 := hq
      subst hq
      have hcd : cdSet g (nI a) = 2 := by unfold cdSet; rw [enp, k10, ea, ho]; rfl
      have hst : stSet g (nI a) = g := by unfold stSet; rw [enp, k10, ea, ho]; rfl
      refine v_istore_n (lo' := [some (.ref (Z.ad 0)), some (.int (nI a)), some (.int (-1)), none]) C dX4_set_24 rfl (Nat.le_of_ble_eq_true rfl) rfl rfl ?_
      refine v_iload_n C dX4_set_25 rfl rfl ?_
      refine v_iconst (v := (-1)) C dX4_set_26 (by decide) ?_
      refine v_icmp_ne (tgt := 36) C dX4_set_27 (by decide) (fun h27 => ?_) (fun h27 => ?_)
      · exact absurd rfl h27
      · refine v_aload_n C dX4_set_30 rfl rfl ?_
        refine v_iconst (v := 2) C dX4_set_31 (by decide) ?_
        refine v_callVi (n := 1) (as := [.int 2]) C (c_no _ Z 2 g21) (gv (tg4 48 rfl rfl) (tg4 50 rfl rfl) (tg0 20 rfl rfl) (tg1 6 rfl rfl) (tg4 51 rfl rfl)) (by decide +kernel) ⟨Nat.le_of_ble_eq_true rfl, Nat.le_of_ble_eq_true rfl⟩ rfl cx_M rfl rfl (Nat.le_of_ble_eq_true rfl) dX4_set_32 ⟨Nat.le_of_ble_eq_true rfl, Nat.le_of_ble_eq_true rfl⟩ (fun r32 g32 hp32 => ?_)
        obtain ⟨rfl, hg32⟩ := hp32
        rw [hg32]
        exact ret _ _ _ _ dX4_set_35 (PM.no (k := 2) hcd (by decide) hst (fun j h1 h2 => (hfr.2 j (by omega)).trans (wr_ne _ _ _ _ (Or.inr (by omega)))) (fun q h1 h2 => (hfr.1 q (by omega) (by omega)).trans (wr_row _ _ _ _ (by omega))) (fun q hq => (hfr.1 q (by omega) (by omega)).trans (wr_row _ _ _ _ (by omega))))
    | some am =>
      obtain ⟨L, mo⟩ := am
      rw [ho] at hq
      have hLI := plM_I hf5 hot (show plM g a (nlO g a) nf (wdO g) = some (L, mo) by rw [← ho]; unfold plO; rw [enf])
      obtain ⟨hr21, h21, hL⟩ := hq
      have hlen : L.length = nlO g a := by rw [hLI.1, wds_len]; omega
      obtain ⟨Cf, hCf, hCe⟩ := plI_fl hLI
      have hcd : cdSet g (nI a) = 0 := by unfold cdSet; rw [enp, k10, ea, ho]; rfl
      have hst : stSet g (nI a) = setG g a (L, mo) := by unfold stSet; rw [enp, k10, ea, ho]; rfl
      subst hr21
      refine v_istore_n (lo' := [some (.ref (Z.ad 0)), some (.int (nI a)), some (.int (flS L)), none]) C dX4_set_24 rfl (Nat.le_of_ble_eq_true rfl) rfl rfl ?_
      refine v_iload_n C dX4_set_25 rfl rfl ?_
      refine v_iconst (v := (-1)) C dX4_set_26 (by decide) ?_
      refine v_icmp_ne (tgt := 36) C dX4_set_27 (by decide) (fun h27 => ?_) (fun h27 => ?_)
      · refine v_aload_n C dX4_set_36 rfl rfl ?_
        refine v_get C inG4 rfl 22 (by decide) (tg3 217 rfl rfl) rfl cx_M rfl dX4_set_37 ?_
        refine v_iconst (v := 0) C dX4_set_40 (by decide) ?_
        refine v_aload_n C dX4_set_41 rfl rfl ?_
        refine v_get C inG4 rfl 18 (by decide) (tg3 213 rfl rfl) rfl cx_M rfl dX4_set_42 ?_
        refine v_iconst (v := 4) C dX4_set_45 (by decide) ?_
        refine v_iload_n C dX4_set_46 rfl rfl ?_
        refine v_imul C dX4_set_47 ?_
        refine v_topi (y := nI (4 * a)) (by rw [show (4 : Int32) = nI 4 from rfl, nI_mul]) ?_
        refine v_iconst (v := 4) C dX4_set_48 (by decide) ?_
        refine v_copy (ks := 22) (kd := 18) (a := 0) (b := 4 * a) (n := 4) C (tg4 122 rfl rfl) (tg1 131 rfl rfl) (tg1 130 rfl rfl) (tg1 15 rfl rfl) cxA22 (fun _ _ => cxA18) rfl (by omega) (by omega) (by omega) (by decide) (Nat.le_of_ble_eq_true rfl) (Nat.le_of_ble_eq_true rfl) dX4_set_49 ?_
        refine v_aload_n C dX4_set_52 rfl rfl ?_
        refine v_get C inG4 rfl 23 (by decide) (tg3 218 rfl rfl) rfl cx_M rfl dX4_set_53 ?_
        refine v_iconst (v := 0) C dX4_set_56 (by decide) ?_
        refine v_aload_n C dX4_set_57 rfl rfl ?_
        refine v_get C inG4 rfl 19 (by decide) (tg3 214 rfl rfl) rfl cx_M rfl dX4_set_58 ?_
        refine v_iconst (v := 4) C dX4_set_61 (by decide) ?_
        refine v_iload_n C dX4_set_62 rfl rfl ?_
        refine v_imul C dX4_set_63 ?_
        refine v_topi (y := nI (4 * a)) (by rw [show (4 : Int32) = nI 4 from rfl, nI_mul]) ?_
        refine v_iconst (v := 4) C dX4_set_64 (by decide) ?_
        refine v_copy (ks := 23) (kd := 19) (a := 0) (b := 4 * a) (n := 4) C (tg4 122 rfl rfl) (tg1 131 rfl rfl) (tg1 130 rfl rfl) (tg1 15 rfl rfl) cxA23 (fun _ _ => cxA19) rfl (by omega) (by omega) (by omega) (by decide) (Nat.le_of_ble_eq_true rfl) (Nat.le_of_ble_eq_true rfl) dX4_set_65 ?_
        refine v_aload_n C dX4_set_68 rfl rfl ?_
        refine v_get C inG4 rfl 24 (by decide) (tg3 219 rfl rfl) rfl cx_M rfl dX4_set_69 ?_
        refine v_iconst (v := 0) C dX4_set_72 (by decide) ?_
        refine v_aload_n C dX4_set_73 rfl rfl ?_
        refine v_get C inG4 rfl 20 (by decide) (tg3 215 rfl rfl) rfl cx_M rfl dX4_set_74 ?_
        refine v_iconst (v := 4) C dX4_set_77 (by decide) ?_
        refine v_iload_n C dX4_set_78 rfl rfl ?_
        refine v_imul C dX4_set_79 ?_
        refine v_topi (y := nI (4 * a)) (by rw [show (4 : Int32) = nI 4 from rfl, nI_mul]) ?_
        refine v_iconst (v := 4) C dX4_set_80 (by decide) ?_
        refine v_copy (ks := 24) (kd := 20) (a := 0) (b := 4 * a) (n := 4) C (tg4 122 rfl rfl) (tg1 131 rfl rfl) (tg1 130 rfl rfl) (tg1 15 rfl rfl) cxA24 (fun _ _ => cxA20) rfl (by omega) (by omega) (by omega) (by decide) (Nat.le_of_ble_eq_true rfl) (Nat.le_of_ble_eq_true rfl) dX4_set_81 ?_
        obtain ⟨gc, hgc⟩ : ∃ gc, gc = rwr (rwr (rwr (g21) 18 (va_cpy ((g21) 22) ((g21) 18) 0 (4 * a) 4)) 19 (va_cpy ((rwr (g21) 18 (va_cpy ((g21) 22) ((g21) 18) 0 (4 * a) 4)) 23) ((rwr (g21) 18 (va_cpy ((g21) 22) ((g21) 18) 0 (4 * a) 4)) 19) 0 (4 * a) 4)) 20 (va_cpy ((rwr (rwr (g21) 18 (va_cpy ((g21) 22) ((g21) 18) 0 (4 * a) 4)) 19 (va_cpy ((rwr (g21) 18 (va_cpy ((g21) 22) ((g21) 18) 0 (4 * a) 4)) 23) ((rwr (g21) 18 (va_cpy ((g21) 22) ((g21) 18) 0 (4 * a) 4)) 19) 0 (4 * a) 4)) 24) ((rwr (rwr (g21) 18 (va_cpy ((g21) 22) ((g21) 18) 0 (4 * a) 4)) 19 (va_cpy ((rwr (g21) 18 (va_cpy ((g21) 22) ((g21) 18) 0 (4 * a) 4)) 23) ((rwr (g21) 18 (va_cpy ((g21) 22) ((g21) 18) 0 (4 * a) 4)) 19) 0 (4 * a) 4)) 20) 0 (4 * a) 4) := ⟨_, rfl⟩
        rw [← hgc]
        have c0 : ∀ q, q ≠ 18 → q ≠ 19 → q ≠ 20 → gc q = g21 q := fun q h1 h2 h3 => by rw [hgc, rwr_ne _ _ _ h3, rwr_ne _ _ _ h2, rwr_ne _ _ _ h1]
        have c18 : ∀ j, gc 18 j = if 4 * a ≤ j ∧ j < 4 * a + 4 then g21 22 (0 + (j - 4 * a)) else g21 18 j := fun j => by rw [hgc, rwr_ne _ _ _ (by decide), rwr_ne _ _ _ (by decide), rwr_same]; rfl
        have c19 : ∀ j, gc 19 j = if 4 * a ≤ j ∧ j < 4 * a + 4 then g21 23 (0 + (j - 4 * a)) else g21 19 j := fun j => by rw [hgc, rwr_ne _ _ _ (by decide), rwr_same, rwr_ne _ _ _ (show 23 ≠ 18 by decide), rwr_ne _ _ _ (show 19 ≠ 18 by decide)]; rfl
        have c20 : ∀ j, gc 20 j = if 4 * a ≤ j ∧ j < 4 * a + 4 then g21 24 (0 + (j - 4 * a)) else g21 20 j := fun j => by rw [hgc, rwr_same, rwr_ne _ _ _ (show 24 ≠ 19 by decide), rwr_ne _ _ _ (show 24 ≠ 18 by decide), rwr_ne _ _ _ (show 20 ≠ 19 by decide), rwr_ne _ _ _ (show 20 ≠ 18 by decide)]; rfl
        have hRE : ∀ g1 : MG, (∀ q, q ≠ 7 → g1 q = gc q) → (∀ j, g1 7 j = if j < 50 then g 7 j + mo j else g 7 j) → RE (setG g a (L, mo)) (wr g1 15 a 1) := by
          intro g1 hr h7
          have base : ∀ q, 5 ≤ q → q ≤ 17 → q ≠ 7 → g1 q = g q := fun q h1 h2 h3 => by rw [hr q h3, c0 q (by omega) (by omega) (by omega), hfr.1 q (by omega) (by omega)]; exact wr_row _ _ _ _ (by omega)
          refine ⟨fun j h1 h2 => ?_, fun q h1 h2 => ?_, fun p k hp hs hk => ?_⟩
          · rw [wr_row _ _ _ _ (by decide), hr 0 (by decide), c0 0 (by decide) (by decide) (by decide), hfr.2 j (by omega)]
            exact wr_ne _ _ _ _ (Or.inr (by omega))
          · funext j
            by_cases h15 : q = 15
            · subst h15
              rw [wr_own]; unfold upd setG
              rw [base 15 (by decide) (by decide) (by decide)]; rfl
            · rw [wr_row _ _ _ _ h15]
              by_cases h77 : q = 7
              · subst h77; rw [h7]; rfl
              · rw [base q h1 h2 h77]; unfold setG
                rw [if_neg (by omega), if_neg (by omega), if_neg (by omega), if_neg h77, if_neg h15]
          · have hk4 : k < nlO g p := hk
            have hp4 := (IvM_nl hI hp).2
            rw [wr_row _ _ _ _ (by decide), wr_row _ _ _ _ (by decide), wr_row _ _ _ _ (by decide), hr 18 (by decide), hr 19 (by decide), hr 20 (by decide), c18, c19, c20]
            show _ = (if 4 * a ≤ 4 * p + k ∧ 4 * p + k < 4 * a + L.length then nI (lfn L (4 * p + k - 4 * a)) else g 18 (4 * p + k)) ∧ _ = (if 4 * a ≤ 4 * p + k ∧ 4 * p + k < 4 * a + L.length then lfl L (4 * p + k - 4 * a) else g 19 (4 * p + k)) ∧ _ = (if 4 * a ≤ 4 * p + k ∧ 4 * p + k < 4 * a + L.length then lwd L (4 * p + k - 4 * a) else g 20 (4 * p + k))
            by_cases hpa : p = a
            · subst hpa
              have e1 : 4 * p + k - 4 * p = k := by omega
              rw [if_pos (by omega), if_pos (by omega), if_pos (by omega), if_pos (by omega), if_pos (by omega), if_pos (by omega), e1, Nat.zero_add]
              obtain ⟨q, hq⟩ : ∃ q, L[k]? = some q := ⟨_, List.getElem?_eq_getElem (by omega)⟩
              obtain ⟨q1, q2, q3⟩ := hL k q hq
              exact ⟨by rw [q1]; unfold lfn; rw [hq], by rw [q2]; unfold lfl; rw [hq], by rw [q3]; unfold lwd; rw [hq]⟩
            · rw [if_neg (by omega), if_neg (by omega), if_neg (by omega), if_neg (by omega), if_neg (by omega), if_neg (by omega)]
              rw [hfr.1 18 (by omega) (by decide), hfr.1 19 (by omega) (by decide), hfr.1 20 (by omega) (by decide)]
              exact ⟨congrFun (wr_row _ _ _ _ (by decide)) _, congrFun (wr_row _ _ _ _ (by decide)) _, congrFun (wr_row _ _ _ _ (by decide)) _⟩
        have loop : ∀ (n k : Nat) (g1 : MG), 50 - k < n → k ≤ 50 → (∀ q, q ≠ 7 → g1 q = gc q) → (∀ j, g1 7 j = if j < k then g 7 j + mo j else g 7 j) → V P (rmz 5 140 0 0) Z [some (.ref (Z.ad 0)), some (.int (nI a)), some (.int (flS L)), some (.int (nI k))] 86 [] g1 0 0 := by
          intro n
          induction n with
          | zero => intro k g1 hn; exact absurd hn (Nat.not_lt_zero _)
          | succ n ih =>
            intro k g1 hn hk hr h7
            refine v_iload_n C dX4_set_86 rfl rfl ?_
            refine v_bipush (v := 50) C dX4_set_87 (by decide) ?_
            refine v_icmp_ge (tgt := 113) C dX4_set_89 (by decide) (fun h89 => ?_) (fun h89 => ?_)
            · have hkn : k = 50 := Nat.le_antisymm hk ((nI_leI (a := 50) (by decide) (by omega)).mp h89)
              subst hkn
              refine v_aload_n C dX4_set_113 rfl rfl ?_
              refine v_get C inG4 rfl 15 (by decide) (tg3 210 rfl rfl) rfl cx_M rfl dX4_set_114 ?_
              refine v_iload_n C dX4_set_117 rfl rfl ?_
              refine v_iconst (v := 1) C dX4_set_118 (by decide) ?_
              refine v_iastN (a := a) C (fun _ _ => cxA15) rfl (by omega) (by omega) dX4_set_119 ?_
              refine v_iload_n C dX4_set_120 rfl rfl ?_
              exact ret _ _ _ _ dX4_set_121 ⟨by rw [hcd, wr_row _ _ _ _ (by decide), hr 0 (by decide), c0 0 (by decide) (by decide) (by decide)]; exact hfr.2 0 (by decide), fun _ => by rw [ea, ho]; rfl, by rw [hst]; exact hRE g1 hr h7, fun q hq => by rw [wr_row _ _ _ _ (by omega), hr q (by omega), c0 q (by omega) (by omega) (by omega), hfr.1 q (by omega) (by omega)]; exact wr_row _ _ _ _ (by omega)⟩
            · have hkn : k < 50 := Nat.lt_of_not_le fun q => h89 ((nI_leI (a := 50) (by decide) (by omega)).mpr q)
              refine v_aload_n C dX4_set_92 rfl rfl ?_
              refine v_get C inG4 rfl 7 (by decide) (tg3 202 rfl rfl) rfl cx_M rfl dX4_set_93 ?_
              refine v_iload_n C dX4_set_96 rfl rfl ?_
              refine v_dup2 C dX4_set_97 rfl rfl ?_
              refine v_ialdN (a := k) C cxA7 (by omega) dX4_set_98 ?_
              refine v_topi (y := g 7 k) (by rw [h7, if_neg (by omega)]) ?_
              refine v_aload_n C dX4_set_99 rfl rfl ?_
              refine v_get C inG4 rfl 21 (by decide) (tg3 216 rfl rfl) rfl cx_M rfl dX4_set_100 ?_
              refine v_iload_n C dX4_set_103 rfl rfl ?_
              refine v_ialdN (a := k) C cxA21 (by omega) dX4_set_104 ?_
              refine v_topi (y := mo k) (by rw [hr 21 (by decide), c0 21 (by decide) (by decide) (by decide), h21]) ?_
              refine v_iadd C dX4_set_105 ?_
              refine v_iastN (a := k) C (fun _ _ => cxA7) rfl (by omega) (by omega) dX4_set_106 ?_
              refine v_iinc (lo' := [some (.ref (Z.ad 0)), some (.int (nI a)), some (.int (flS L)), some (.int ((nI k) + 1))]) C dX4_set_107 rfl rfl rfl rfl ?_
              refine v_lo (lo' := [some (.ref (Z.ad 0)), some (.int (nI a)), some (.int (flS L)), some (.int (nI (k + 1)))]) (by rw [← nI_1 k]) ?_
              refine v_goto (tgt := 86) C dX4_set_110 (by decide) ?_
              exact ih (k + 1) _ (by omega) (by omega) (fun q hq => by rw [wr_row _ _ _ _ hq]; exact hr q hq) (fun j => by by_cases hj : j = k; (· rw [hj, wr_same, if_pos (by omega)]); (· rw [wr_ne _ _ _ _ (Or.inr hj), h7]; by_cases hc : j < k; (· rw [if_pos hc, if_pos (by omega)]); (· rw [if_neg hc, if_neg (by omega)])))
        refine v_iconst (v := 0) C dX4_set_84 (by decide) ?_
        refine v_topi (y := nI 0) rfl ?_
        refine v_istore_n (lo' := [some (.ref (Z.ad 0)), some (.int (nI a)), some (.int (flS L)), some (.int (nI 0))]) C dX4_set_85 rfl (Nat.le_of_ble_eq_true rfl) rfl rfl ?_
        exact loop 51 0 gc (by omega) (by omega) (fun _ _ => rfl) (fun j => by rw [if_neg (Nat.not_lt_zero j), c0 7 (by decide) (by decide) (by decide), hfr.1 7 (by omega) (by decide)]; rfl)
      · exact absurd h27 (by rw [hCe]; exact nI_m1 (by rw [hlen] at hCf; omega))
  · have k10 := bI_0.mp h10
    refine v_aload_n C dX4_set_13 rfl rfl ?_
    refine v_iconst (v := 1) C dX4_set_14 (by decide) ?_
    refine v_callVi (n := 1) (as := [.int 1]) C (c_no _ Z 1 (wr g 0 0 0)) (gv (tg4 48 rfl rfl) (tg4 50 rfl rfl) (tg0 20 rfl rfl) (tg1 6 rfl rfl) (tg4 51 rfl rfl)) (by decide +kernel) ⟨Nat.le_of_ble_eq_true rfl, Nat.le_of_ble_eq_true rfl⟩ rfl cx_M rfl rfl (Nat.le_of_ble_eq_true rfl) dX4_set_15 ⟨Nat.le_of_ble_eq_true rfl, Nat.le_of_ble_eq_true rfl⟩ (fun r15 g15 hp15 => ?_)
    obtain ⟨rfl, hg15⟩ := hp15
    rw [hg15]
    exact ret _ _ _ _ dX4_set_18 (PM.no (k := 1) (by unfold cdSet; rw [enp, k10]; rfl) (by decide) (by unfold stSet; rw [enp, k10]; rfl) (fun j h1 h2 => wr_ne _ _ _ _ (Or.inr (by omega))) (fun q h1 h2 => wr_row _ _ _ _ (by omega)) (fun q hq => wr_row _ _ _ _ (by omega)))
set_option maxRecDepth 100000 in
theorem c_print (l : Launch) (Z : Zc) (p c : Int32) (g : MG) (hI : IvM g) : MI l yX4_print cX4_print 4 (some .int) (rmz 3 62 0 0) Z [.ref (Z.ad 0), .int p, .int c] g (PM g (cdPrint g p c) (gtO g (iz p) c) (stPrint g p c)) := by
  refine ent_i (own := RX4) (lo := [some (.ref (Z.ad 0)), some (.int p), some (.int c), none]) (by decide) rfl (by simp [lg_sl, Value.category]) rfl (fun P hl C ret => ?_)
  obtain ⟨⟨nf, hf5, hnf⟩, ⟨np, hp6, hnp⟩, hot, hnl, htn, his, hwd, htk⟩ := id hI
  have enf : nfO g = nf := by unfold nfO; rw [hnf]; exact iz_nI (by omega)
  have enp : npO g = np := by unfold npO; rw [hnp]; exact iz_nI (by omega)
  refine v_aload_n C dX4_print_0 rfl rfl ?_
  refine v_iconst (v := 0) C dX4_print_1 (by decide) ?_
  refine v_put C inG4 rfl tyX4 tyX4_ok nmX4 0 (by decide) (tg3 195 rfl rfl) rfl rfl (ty := .int) rfl rfl rfl cx_M (Nat.le_of_ble_eq_true rfl) rfl (by omega) cx_M dX4_print_2 ?_
  refine v_aload_n C dX4_print_5 rfl rfl ?_
  refine v_iload_n C dX4_print_6 rfl rfl ?_
  refine v_callVi (n := 1) (as := [.int p]) C (c_isPoster _ Z np p (wr g 0 0 0) hnp hp6) (gv (tg4 87 rfl rfl) (tg4 89 rfl rfl) (tg0 22 rfl rfl) (tg1 6 rfl rfl) (tg4 90 rfl rfl)) (by decide +kernel) ⟨Nat.le_of_ble_eq_true rfl, Nat.le_of_ble_eq_true rfl⟩ rfl cx_M rfl rfl (Nat.le_of_ble_eq_true rfl) dX4_print_7 ⟨Nat.le_of_ble_eq_true rfl, Nat.le_of_ble_eq_true rfl⟩ (fun r7 g7 hp7 => ?_)
  obtain ⟨rfl, hg7⟩ := hp7
  rw [hg7]
  refine v_if_ne (tgt := 19) C dX4_print_10 (by decide) (fun h10 => ?_) (fun h10 => ?_)
  · have k10 := bI_1.mp h10
    refine v_iload_n C dX4_print_19 rfl rfl ?_
    refine v_iconst (v := 1) C dX4_print_20 (by decide) ?_
    refine v_sipush (v := 500) C dX4_print_21 (by decide) ?_
    refine v_callSi (n := 3) (as := [.int c, .int 1, .int 500]) C (c_isIn _ Z c 1 500 (wr g 0 0 0)) (gs (tg4 45 rfl rfl) (tg4 46 rfl rfl) (tg1 6 rfl rfl) (tg4 47 rfl rfl)) (by decide +kernel) ⟨Nat.le_of_ble_eq_true rfl, Nat.le_of_ble_eq_true rfl⟩ rfl rfl (Nat.le_of_ble_eq_true rfl) dX4_print_24 ⟨Nat.le_of_ble_eq_true rfl, Nat.le_of_ble_eq_true rfl⟩ (fun r24 g24 hp24 => ?_)
    obtain ⟨rfl, hg24⟩ := hp24
    rw [hg24]
    refine v_if_ne (tgt := 36) C dX4_print_27 (by decide) (fun h27 => ?_) (fun h27 => ?_)
    · have k27 := bI_1.mp h27
      obtain ⟨a, ha, rfl⟩ := isN_ex k10
      have ea : iz (nI a) = a := iz_nI (by omega)
      have hl := IvM_nl hI (show a < 6 by omega)
      refine v_aload_n C dX4_print_36 rfl rfl ?_
      refine v_get C inG4 rfl 15 (by decide) (tg3 210 rfl rfl) rfl cx_M rfl dX4_print_37 ?_
      refine v_iload_n C dX4_print_40 rfl rfl ?_
      refine v_ialdN (a := a) C cxA15 (by omega) dX4_print_41 ?_
      refine v_topi (y := g 15 a) rfl ?_
      refine v_if_ne (tgt := 51) C dX4_print_42 (by decide) (fun h42 => ?_) (fun h42 => ?_)
      · have hcd : cdPrint g (nI a) c = 0 := by unfold cdPrint; rw [enp, if_neg (by rw [k10]; decide), if_neg (by rw [k27]; decide), ea, if_neg h42]
        have h1 : g 15 a = 1 := (his a (by omega)).resolve_left h42
        have ht := IvM_t hI (show a < 6 by omega)
        refine v_iconst (v := 0) C dX4_print_51 (by decide) ?_
        refine v_topi (y := nI 0) rfl ?_
        refine v_istore_n (lo' := [some (.ref (Z.ad 0)), some (.int (nI a)), some (.int c), some (.int (nI 0))]) C dX4_print_52 rfl (Nat.le_of_ble_eq_true rfl) rfl rfl ?_
        have loop : ∀ (n k : Nat) (g1 : MG), 50 - k < n → k ≤ 50 → (∀ q, q ≠ 8 → g1 q = (wr g 0 0 0) q) → (∀ j, g1 8 j = if j < k then g 8 j + c * nI (outO g a (j / 10) (j % 10)) else g 8 j) → V P (rmz 3 62 0 0) Z [some (.ref (Z.ad 0)), some (.int (nI a)), some (.int c), some (.int (nI k))] 53 [] g1 0 0 := by
          intro n
          induction n with
          | zero => intro k g1 hn; exact absurd hn (Nat.not_lt_zero _)
          | succ n ih =>
            intro k g1 hn hk hr h8
            refine v_iload_n C dX4_print_53 rfl rfl ?_
            refine v_bipush (v := 50) C dX4_print_54 (by decide) ?_
            refine v_icmp_ge (tgt := 89) C dX4_print_56 (by decide) (fun h56 => ?_) (fun h56 => ?_)
            · have hkn : k = 50 := Nat.le_antisymm hk ((nI_leI (a := 50) (by decide) (by omega)).mp h56)
              subst hkn
              have hI1 : IvM g1 := IvM_eq hI (by rw [hr 0 (by decide)]; rfl) (by rw [hr 0 (by decide)]; rfl) (fun k h1 h2 => by rw [hr k (by omega)]; exact wr_row _ _ _ _ (by omega))
              refine v_aload_n C dX4_print_89 rfl rfl ?_
              refine v_iload_n C dX4_print_90 rfl rfl ?_
              refine v_callVi (n := 1) (as := [.int (nI a)]) C (c_proof _ Z a (nlO g a) (iz (g 12 a)) (wdO g) g1 (by omega) (by rw [hr 14 (by decide)]; exact hl.1) hl.2 (by rw [hr 17 (by decide)]; exact IvM_W hI) ht.2 (by rw [hr 12 (by decide)]; exact ht.1) (by rw [hr 15 (by decide), hr 18 (by decide)]; exact IvM_F hI (by omega)) (by rw [hr 15 (by decide)]; exact his a (by omega))) (gv (tg4 131 rfl rfl) (tg4 133 rfl rfl) (tg0 29 rfl rfl) (tg1 6 rfl rfl) (tg4 134 rfl rfl)) (by decide +kernel) ⟨Nat.le_of_ble_eq_true rfl, Nat.le_of_ble_eq_true rfl⟩ rfl cx_M rfl rfl (Nat.le_of_ble_eq_true rfl) dX4_print_91 ⟨Nat.le_of_ble_eq_true rfl, Nat.le_of_ble_eq_true rfl⟩ (fun r91 g91 hp91 => ?_)
              obtain ⟨hr91, hg91⟩ := hp91
              rw [hg91]
              have hr91 : r91 = prO g (wdO g) a (nlO g a) (iz (g 12 a)) := by rw [hr91]; unfold prO flO; rw [hr 15 (by decide), hr 5 (by decide), hr 18 (by decide), hr 10 (by decide), hr 11 (by decide), hr 19 (by decide)]; rfl
              subst hr91
              refine v_iload_n C dX4_print_94 rfl rfl ?_
              refine v_imul C dX4_print_95 ?_
              refine v_bipush (v := 100) C dX4_print_96 (by decide) ?_
              refine v_idiv C dX4_print_98 (by decide) ?_
              refine v_topi (y := gtO g a c) rfl ?_
              refine v_istore_n (lo' := [some (.ref (Z.ad 0)), some (.int (nI a)), some (.int c), some (.int (gtO g a c))]) C dX4_print_99 rfl (Nat.le_of_ble_eq_true rfl) rfl rfl ?_
              refine v_aload_n C dX4_print_100 rfl rfl ?_
              refine v_dup C dX4_print_101 rfl ?_
              refine v_get C inG4 rfl 3 (by decide) (tg3 198 rfl rfl) rfl cx_M rfl dX4_print_102 ?_
              refine v_topi (y := g 0 3) (by rw [hr 0 (by decide)]; rfl) ?_
              refine v_iload_n C dX4_print_105 rfl rfl ?_
              refine v_iadd C dX4_print_106 ?_
              refine v_put C inG4 rfl tyX4 tyX4_ok nmX4 3 (by decide) (tg3 198 rfl rfl) rfl rfl (ty := .int) rfl rfl rfl cx_M (Nat.le_of_ble_eq_true rfl) rfl (fun _ => Or.inl (by omega)) cx_M dX4_print_107 ?_
              refine v_aload_n C dX4_print_110 rfl rfl ?_
              refine v_get C inG4 rfl 16 (by decide) (tg3 211 rfl rfl) rfl cx_M rfl dX4_print_111 ?_
              refine v_iload_n C dX4_print_114 rfl rfl ?_
              refine v_dup2 C dX4_print_115 rfl rfl ?_
              refine v_ialdN (a := a) C cxA16 (by omega) dX4_print_116 ?_
              refine v_topi (y := g 16 a) (by rw [wr_row _ _ _ _ (by decide), hr 16 (by decide)]; rfl) ?_
              refine v_iload_n C dX4_print_117 rfl rfl ?_
              refine v_iadd C dX4_print_118 ?_
              refine v_iastN (a := a) C (fun _ _ => cxA16) rfl (by omega) (by omega) dX4_print_119 ?_
              refine v_iload_n C dX4_print_120 rfl rfl ?_
              exact ret _ _ _ _ dX4_print_121 ⟨by rw [hcd, wr_row _ _ _ _ (by decide), wr_ne _ _ _ _ (Or.inr (by decide)), hr 0 (by decide)]; rfl, fun _ => by rw [ea], by unfold stPrint; rw [if_pos hcd, ea]; exact ⟨fun j h1 h2 => by simp only [wr, rwr, hr 0 (show 0 ≠ 8 by decide)]; repeat' (first | rfl | (exfalso; omega) | split), fun q h1 h2 => by by_cases h16 : q = 16; (· subst h16; rw [wr_own, wr_own, wr_row _ _ _ _ (by decide), wr_row _ _ _ _ (by decide), rwr_ne _ _ _ (by decide), hr 16 (by decide)]; rfl); (· rw [wr_row _ _ _ _ h16, wr_row _ _ _ _ h16, wr_row _ _ _ _ (by omega), wr_row _ _ _ _ (by omega)]; by_cases h88 : q = 8; (· subst h88; rw [rwr_same]; exact funext h8); (· rw [rwr_ne _ _ _ h88, hr q h88]; exact wr_row _ _ _ _ (by omega))), fun p k _ _ _ => by simp only [wr, rwr, hr 18 (show 18 ≠ 8 by decide), hr 19 (show 19 ≠ 8 by decide), hr 20 (show 20 ≠ 8 by decide)]; exact ⟨rfl, rfl, rfl⟩⟩, fun q hq => by rw [wr_row _ _ _ _ (by omega), wr_row _ _ _ _ (by omega), hr q (by omega)]; exact wr_row _ _ _ _ (by omega)⟩
            · have hkn : k < 50 := Nat.lt_of_not_le fun q => h56 ((nI_leI (a := 50) (by decide) (by omega)).mpr q)
              refine v_aload_n C dX4_print_59 rfl rfl ?_
              refine v_get C inG4 rfl 8 (by decide) (tg3 203 rfl rfl) rfl cx_M rfl dX4_print_60 ?_
              refine v_iload_n C dX4_print_63 rfl rfl ?_
              refine v_dup2 C dX4_print_64 rfl rfl ?_
              refine v_ialdN (a := k) C cxA8 (by omega) dX4_print_65 ?_
              refine v_topi (y := g 8 k) (by rw [h8, if_neg (by omega)]) ?_
              refine v_iload_n C dX4_print_66 rfl rfl ?_
              refine v_aload_n C dX4_print_67 rfl rfl ?_
              refine v_iload_n C dX4_print_68 rfl rfl ?_
              refine v_iload_n C dX4_print_69 rfl rfl ?_
              refine v_bipush (v := 10) C dX4_print_70 (by decide) ?_
              refine v_idiv C dX4_print_72 (by decide) ?_
              refine v_topi (y := nI (k / 10)) (nI_div (b := 10) (by omega) (by decide)) ?_
              refine v_iload_n C dX4_print_73 rfl rfl ?_
              refine v_bipush (v := 10) C dX4_print_74 (by decide) ?_
              refine v_irem C dX4_print_76 (by decide) ?_
              refine v_topi (y := nI (k % 10)) (nI_mod10 (by omega)) ?_
              refine v_callVi (n := 3) (as := [.int (nI a), .int (nI (k / 10)), .int (nI (k % 10))]) C (c_outOf _ Z a (nlO g a) (k / 10) (k % 10) (wdO g) (tkO g) g1 (by omega) (by rw [hr 14 (by decide)]; exact hl.1) hl.2 (by rw [hr 17 (by decide)]; exact IvM_W hI) (by omega) (by omega) (by rw [hr 20 (by decide)]; exact IvM_T hI (by omega) h1)) (gv (tg4 127 rfl rfl) (tg4 129 rfl rfl) (tg0 28 rfl rfl) (tg1 6 rfl rfl) (tg4 130 rfl rfl)) (by decide +kernel) ⟨Nat.le_of_ble_eq_true rfl, Nat.le_of_ble_eq_true rfl⟩ rfl cx_M rfl rfl (Nat.le_of_ble_eq_true rfl) dX4_print_77 ⟨Nat.le_of_ble_eq_true rfl, Nat.le_of_ble_eq_true rfl⟩ (fun r77 g77 hp77 => ?_)
              obtain ⟨hr77, hg77⟩ := hp77
              rw [hg77]
              have hr77 : r77 = nI (outO g a (k / 10) (k % 10)) := by rw [hr77, hr 18 (by decide)]; rfl
              subst hr77
              refine v_imul C dX4_print_80 ?_
              refine v_iadd C dX4_print_81 ?_
              refine v_iastN (a := k) C (fun _ _ => cxA8) rfl (by omega) (by omega) dX4_print_82 ?_
              refine v_iinc (lo' := [some (.ref (Z.ad 0)), some (.int (nI a)), some (.int c), some (.int ((nI k) + 1))]) C dX4_print_83 rfl rfl rfl rfl ?_
              refine v_lo (lo' := [some (.ref (Z.ad 0)), some (.int (nI a)), some (.int c), some (.int (nI (k + 1)))]) (by rw [← nI_1 k]) ?_
              refine v_goto (tgt := 53) C dX4_print_86 (by decide) ?_
              exact ih (k + 1) _ (by omega) (by omega) (fun q hq => by rw [wr_row _ _ _ _ hq]; exact hr q hq) (fun j => by by_cases hj : j = k; (· rw [hj, wr_same, if_pos (by omega)]); (· rw [wr_ne _ _ _ _ (Or.inr hj), h8]; by_cases hc : j < k; (· rw [if_pos hc, if_pos (by omega)]); (· rw [if_neg hc, if_neg (by omega)])))
        exact loop 51 0 _ (by omega) (by omega) (fun _ _ => rfl) (fun j => by rw [if_neg (Nat.not_lt_zero j)]; rfl)
      · refine v_aload_n C dX4_print_45 rfl rfl ?_
        refine v_iconst (v := 3) C dX4_print_46 (by decide) ?_
        refine v_callVi (n := 1) (as := [.int 3]) C (c_no _ Z 3 (wr g 0 0 0)) (gv (tg4 48 rfl rfl) (tg4 50 rfl rfl) (tg0 20 rfl rfl) (tg1 6 rfl rfl) (tg4 51 rfl rfl)) (by decide +kernel) ⟨Nat.le_of_ble_eq_true rfl, Nat.le_of_ble_eq_true rfl⟩ rfl cx_M rfl rfl (Nat.le_of_ble_eq_true rfl) dX4_print_47 ⟨Nat.le_of_ble_eq_true rfl, Nat.le_of_ble_eq_true rfl⟩ (fun r47 g47 hp47 => ?_)
        obtain ⟨rfl, hg47⟩ := hp47
        rw [hg47]
        exact ret _ _ _ _ dX4_print_50 (PM.no (k := 3) (by unfold cdPrint; rw [enp, if_neg (by rw [k10]; decide), if_neg (by rw [k27]; decide), ea, if_pos h42]) (by decide) (by unfold stPrint; rw [if_neg (by rw [show cdPrint g (nI a) c = 3 by unfold cdPrint; rw [enp, if_neg (by rw [k10]; decide), if_neg (by rw [k27]; decide), ea, if_pos h42]]; decide)]) (fun j h1 h2 => wr_ne _ _ _ _ (Or.inr (by omega))) (fun q h1 h2 => wr_row _ _ _ _ (by omega)) (fun q hq => wr_row _ _ _ _ (by omega)))
    · have k27 := bI_0.mp h27
      refine v_aload_n C dX4_print_30 rfl rfl ?_
      refine v_iconst (v := 2) C dX4_print_31 (by decide) ?_
      refine v_callVi (n := 1) (as := [.int 2]) C (c_no _ Z 2 (wr g 0 0 0)) (gv (tg4 48 rfl rfl) (tg4 50 rfl rfl) (tg0 20 rfl rfl) (tg1 6 rfl rfl) (tg4 51 rfl rfl)) (by decide +kernel) ⟨Nat.le_of_ble_eq_true rfl, Nat.le_of_ble_eq_true rfl⟩ rfl cx_M rfl rfl (Nat.le_of_ble_eq_true rfl) dX4_print_32 ⟨Nat.le_of_ble_eq_true rfl, Nat.le_of_ble_eq_true rfl⟩ (fun r32 g32 hp32 => ?_)
      obtain ⟨rfl, hg32⟩ := hp32
      rw [hg32]
      exact ret _ _ _ _ dX4_print_35 (PM.no (k := 2) (by unfold cdPrint; rw [enp, if_neg (by rw [k10]; decide), if_pos k27]) (by decide) (by unfold stPrint; rw [if_neg (by rw [show cdPrint g p c = 2 by unfold cdPrint; rw [enp, if_neg (by rw [k10]; decide), if_pos k27]]; decide)]) (fun j h1 h2 => wr_ne _ _ _ _ (Or.inr (by omega))) (fun q h1 h2 => wr_row _ _ _ _ (by omega)) (fun q hq => wr_row _ _ _ _ (by omega)))
  · have k10 := bI_0.mp h10
    refine v_aload_n C dX4_print_13 rfl rfl ?_
    refine v_iconst (v := 1) C dX4_print_14 (by decide) ?_
    refine v_callVi (n := 1) (as := [.int 1]) C (c_no _ Z 1 (wr g 0 0 0)) (gv (tg4 48 rfl rfl) (tg4 50 rfl rfl) (tg0 20 rfl rfl) (tg1 6 rfl rfl) (tg4 51 rfl rfl)) (by decide +kernel) ⟨Nat.le_of_ble_eq_true rfl, Nat.le_of_ble_eq_true rfl⟩ rfl cx_M rfl rfl (Nat.le_of_ble_eq_true rfl) dX4_print_15 ⟨Nat.le_of_ble_eq_true rfl, Nat.le_of_ble_eq_true rfl⟩ (fun r15 g15 hp15 => ?_)
    obtain ⟨rfl, hg15⟩ := hp15
    rw [hg15]
    exact ret _ _ _ _ dX4_print_18 (PM.no (k := 1) (by unfold cdPrint; rw [enp, if_pos k10]) (by decide) (by unfold stPrint; rw [if_neg (by rw [show cdPrint g p c = 1 by unfold cdPrint; rw [enp, if_pos k10]]; decide)]) (fun j h1 h2 => wr_ne _ _ _ _ (Or.inr (by omega))) (fun q h1 h2 => wr_row _ _ _ _ (by omega)) (fun q hq => wr_row _ _ _ _ (by omega)))
end
section
/-! THE REFERENCE: strike -/
set_option maxRecDepth 100000 in
theorem c_strike (l : Launch) (Z : Zc) (p : Int32) (g : MG) (hI : IvM g) : MI l yX4_strike cX4_strike 5 (some .int) (rmz 3 62 0 0) Z [.ref (Z.ad 0), .int p] g (PM g (cdStrike g p) (sumI (brO g (iz p)) 50) (stStrike g p)) := by
  refine ent_i (own := RX4) (lo := [some (.ref (Z.ad 0)), some (.int p), none, none, none]) (by decide) rfl (by simp [lg_sl, Value.category]) rfl (fun P hl C ret => ?_)
  obtain ⟨⟨nf, hf5, hnf⟩, ⟨np, hp6, hnp⟩, hot, hnl, htn, his, hwd, htk⟩ := id hI
  have enf : nfO g = nf := by unfold nfO; rw [hnf]; exact iz_nI (by omega)
  have enp : npO g = np := by unfold npO; rw [hnp]; exact iz_nI (by omega)
  refine v_aload_n C dX4_strike_0 rfl rfl ?_
  refine v_iconst (v := 0) C dX4_strike_1 (by decide) ?_
  refine v_put C inG4 rfl tyX4 tyX4_ok nmX4 0 (by decide) (tg3 195 rfl rfl) rfl rfl (ty := .int) rfl rfl rfl cx_M (Nat.le_of_ble_eq_true rfl) rfl (by omega) cx_M dX4_strike_2 ?_
  refine v_aload_n C dX4_strike_5 rfl rfl ?_
  refine v_iload_n C dX4_strike_6 rfl rfl ?_
  refine v_callVi (n := 1) (as := [.int p]) C (c_isPoster _ Z np p (wr g 0 0 0) hnp hp6) (gv (tg4 87 rfl rfl) (tg4 89 rfl rfl) (tg0 22 rfl rfl) (tg1 6 rfl rfl) (tg4 90 rfl rfl)) (by decide +kernel) ⟨Nat.le_of_ble_eq_true rfl, Nat.le_of_ble_eq_true rfl⟩ rfl cx_M rfl rfl (Nat.le_of_ble_eq_true rfl) dX4_strike_7 ⟨Nat.le_of_ble_eq_true rfl, Nat.le_of_ble_eq_true rfl⟩ (fun r7 g7 hp7 => ?_)
  obtain ⟨rfl, hg7⟩ := hp7
  rw [hg7]
  refine v_if_ne (tgt := 19) C dX4_strike_10 (by decide) (fun h10 => ?_) (fun h10 => ?_)
  · have k10 := bI_1.mp h10
    obtain ⟨a, ha, rfl⟩ := isN_ex k10
    have ea : iz (nI a) = a := iz_nI (by omega)
    have hl := IvM_nl hI (show a < 6 by omega)
    refine v_aload_n C dX4_strike_19 rfl rfl ?_
    refine v_get C inG4 rfl 15 (by decide) (tg3 210 rfl rfl) rfl cx_M rfl dX4_strike_20 ?_
    refine v_iload_n C dX4_strike_23 rfl rfl ?_
    refine v_ialdN (a := a) C cxA15 (by omega) dX4_strike_24 ?_
    refine v_topi (y := g 15 a) rfl ?_
    refine v_if_ne (tgt := 34) C dX4_strike_25 (by decide) (fun h25 => ?_) (fun h25 => ?_)
    · have hcd : cdStrike g (nI a) = 0 := by unfold cdStrike; rw [enp, if_neg (by rw [k10]; decide), ea, if_neg h25]
      have h1 : g 15 a = 1 := (his a (by omega)).resolve_left h25
      refine v_iconst (v := 0) C dX4_strike_34 (by decide) ?_
      refine v_topi (y := nI 0) rfl ?_
      refine v_istore_n (lo' := [some (.ref (Z.ad 0)), some (.int (nI a)), some (.int (nI 0)), none, none]) C dX4_strike_35 rfl (Nat.le_of_ble_eq_true rfl) rfl rfl ?_
      have loop2 : ∀ (n k : Nat) (g1 : MG) (v : Option Value), 50 - k < n → k ≤ 50 → (∀ q, q ≠ 6 → q ≠ 8 → q ≠ 7 → q ≠ 15 → g1 q = (wr g 0 0 0) q) → (∀ j, g1 15 j = if j = a then 0 else g 15 j) → (∀ j, g1 7 j = if j < 50 then skO g a j else g 7 j) → (∀ j, g1 6 j = if j < k then g 6 j - brO g a j else g 6 j) → (∀ j, g1 8 j = if j < k then g 8 j - 400 * brO g a j else g 8 j) → V P (rmz 3 62 0 0) Z [some (.ref (Z.ad 0)), some (.int (nI a)), some (.int (sumI (brO g a) k)), some (.int (nI k)), v] 81 [] g1 0 0 := by
        intro n
        induction n with
        | zero => intro k g1 v hn; exact absurd hn (Nat.not_lt_zero _)
        | succ n ih =>
          intro k g1 v hn hk hr h15 h7 h6 h8
          refine v_iload_n C dX4_strike_81 rfl rfl ?_
          refine v_bipush (v := 50) C dX4_strike_82 (by decide) ?_
          refine v_icmp_ge (tgt := 152) C dX4_strike_84 (by decide) (fun h84 => ?_) (fun h84 => ?_)
          · have hkn : k = 50 := Nat.le_antisymm hk ((nI_leI (a := 50) (by decide) (by omega)).mp h84)
            subst hkn
            refine v_aload_n C dX4_strike_152 rfl rfl ?_
            refine v_dup C dX4_strike_153 rfl ?_
            refine v_get C inG4 rfl 4 (by decide) (tg3 199 rfl rfl) rfl cx_M rfl dX4_strike_154 ?_
            refine v_topi (y := g 0 4) (by rw [hr 0 (by decide) (by decide) (by decide) (by decide)]; rfl) ?_
            refine v_iload_n C dX4_strike_157 rfl rfl ?_
            refine v_iadd C dX4_strike_158 ?_
            refine v_put C inG4 rfl tyX4 tyX4_ok nmX4 4 (by decide) (tg3 199 rfl rfl) rfl rfl (ty := .int) rfl rfl rfl cx_M (Nat.le_of_ble_eq_true rfl) rfl (by omega) cx_M dX4_strike_159 ?_
            refine v_iload_n C dX4_strike_162 rfl rfl ?_
            exact ret _ _ _ _ dX4_strike_163 ⟨by rw [hcd, wr_ne _ _ _ _ (Or.inr (by decide)), hr 0 (by decide) (by decide) (by decide) (by decide)]; rfl, fun _ => by rw [ea], by unfold stStrike; rw [if_pos hcd, ea]; exact ⟨fun j h1 h2 => by simp only [wr, hr 0 (show 0 ≠ 6 by decide) (by decide) (by decide) (by decide)]; repeat' (first | rfl | (exfalso; omega) | split), fun q h1 h2 => by rw [wr_row _ _ _ _ (by omega)]; funext j; by_cases q7 : q = 7; (· subst q7; exact h7 j); (· by_cases q6 : q = 6; (· subst q6; exact h6 j); (· by_cases q8 : q = 8; (· subst q8; exact h8 j); (· by_cases q15 : q = 15; (· subst q15; exact h15 j); (· rw [hr q q6 q8 q7 q15]; show _ = (if q = 7 then _ else if q = 6 then _ else if q = 8 then _ else if q = 15 then _ else if q = 0 then _ else g q j); rw [if_neg q7, if_neg q6, if_neg q8, if_neg q15, if_neg (by omega)]; exact congrFun (wr_row _ _ _ _ (by omega)) j)))), fun p k _ _ _ => by rw [wr_row _ _ _ _ (by decide), wr_row _ _ _ _ (by decide), wr_row _ _ _ _ (by decide), hr 18 (by decide) (by decide) (by decide) (by decide), hr 19 (by decide) (by decide) (by decide) (by decide), hr 20 (by decide) (by decide) (by decide) (by decide)]; exact ⟨rfl, rfl, rfl⟩⟩, fun q hq => by rw [wr_row _ _ _ _ (by omega), hr q (by omega) (by omega) (by omega) (by omega)]; exact wr_row _ _ _ _ (by omega)⟩
          · have hkn : k < 50 := Nat.lt_of_not_le fun q => h84 ((nI_leI (a := 50) (by decide) (by omega)).mpr q)
            refine v_aload_n C dX4_strike_87 rfl rfl ?_
            refine v_get C inG4 rfl 8 (by decide) (tg3 203 rfl rfl) rfl cx_M rfl dX4_strike_88 ?_
            refine v_iload_n C dX4_strike_91 rfl rfl ?_
            refine v_ialdN (a := k) C cxA8 (by omega) dX4_strike_92 ?_
            refine v_topi (y := g 8 k) (by rw [h8, if_neg (by omega)]) ?_
            refine v_sipush (v := 400) C dX4_strike_93 (by decide) ?_
            refine v_idiv C dX4_strike_96 (by decide) ?_
            refine v_aload_n C dX4_strike_97 rfl rfl ?_
            refine v_get C inG4 rfl 6 (by decide) (tg3 201 rfl rfl) rfl cx_M rfl dX4_strike_98 ?_
            refine v_iload_n C dX4_strike_101 rfl rfl ?_
            refine v_ialdN (a := k) C cxA6 (by omega) dX4_strike_102 ?_
            refine v_topi (y := g 6 k) (by rw [h6, if_neg (by omega)]) ?_
            refine v_aload_n C dX4_strike_103 rfl rfl ?_
            refine v_get C inG4 rfl 7 (by decide) (tg3 202 rfl rfl) rfl cx_M rfl dX4_strike_104 ?_
            refine v_iload_n C dX4_strike_107 rfl rfl ?_
            refine v_ialdN (a := k) C cxA7 (by omega) dX4_strike_108 ?_
            refine v_topi (y := skO g a k) (by rw [h7, if_pos hkn]) ?_
            refine v_isub C dX4_strike_109 ?_
            refine v_mmin C (tg4 67 rfl rfl) (tg2 207 rfl rfl) (tg1 14 rfl rfl) (tg2 208 rfl rfl) (Nat.le_of_ble_eq_true rfl) (Nat.le_of_ble_eq_true rfl) (Nat.le_of_ble_eq_true rfl) (Nat.le_of_ble_eq_true rfl) dX4_strike_110 ?_
            refine v_topi (y := brO g a k) rfl ?_
            refine v_istore (lo' := [some (.ref (Z.ad 0)), some (.int (nI a)), some (.int (sumI (brO g a) k)), some (.int (nI k)), some (.int (brO g a k))]) C dX4_strike_113 (Nat.le_of_ble_eq_true rfl) rfl rfl ?_
            refine v_aload_n C dX4_strike_115 rfl rfl ?_
            refine v_get C inG4 rfl 6 (by decide) (tg3 201 rfl rfl) rfl cx_M rfl dX4_strike_116 ?_
            refine v_iload_n C dX4_strike_119 rfl rfl ?_
            refine v_dup2 C dX4_strike_120 rfl rfl ?_
            refine v_ialdN (a := k) C cxA6 (by omega) dX4_strike_121 ?_
            refine v_topi (y := g 6 k) (by rw [h6, if_neg (by omega)]) ?_
            refine v_iload C dX4_strike_122 rfl ?_
            refine v_isub C dX4_strike_124 ?_
            refine v_iastN (a := k) C (fun _ _ => cxA6) rfl (by omega) (by omega) dX4_strike_125 ?_
            refine v_aload_n C dX4_strike_126 rfl rfl ?_
            refine v_get C inG4 rfl 8 (by decide) (tg3 203 rfl rfl) rfl cx_M rfl dX4_strike_127 ?_
            refine v_iload_n C dX4_strike_130 rfl rfl ?_
            refine v_dup2 C dX4_strike_131 rfl rfl ?_
            refine v_ialdN (a := k) C cxA8 (by omega) dX4_strike_132 ?_
            refine v_topi (y := g 8 k) (by rw [wr_row _ _ _ _ (by decide), h8, if_neg (by omega)]) ?_
            refine v_sipush (v := 400) C dX4_strike_133 (by decide) ?_
            refine v_iload C dX4_strike_136 rfl ?_
            refine v_imul C dX4_strike_138 ?_
            refine v_isub C dX4_strike_139 ?_
            refine v_iastN (a := k) C (fun _ _ => cxA8) rfl (by omega) (by omega) dX4_strike_140 ?_
            refine v_iload_n C dX4_strike_141 rfl rfl ?_
            refine v_iload C dX4_strike_142 rfl ?_
            refine v_iadd C dX4_strike_144 ?_
            refine v_topi (y := sumI (brO g a) (k + 1)) rfl ?_
            refine v_istore_n (lo' := [some (.ref (Z.ad 0)), some (.int (nI a)), some (.int (sumI (brO g a) (k + 1))), some (.int (nI k)), some (.int (brO g a k))]) C dX4_strike_145 rfl (Nat.le_of_ble_eq_true rfl) rfl rfl ?_
            refine v_iinc (lo' := [some (.ref (Z.ad 0)), some (.int (nI a)), some (.int (sumI (brO g a) (k + 1))), some (.int ((nI k) + 1)), some (.int (brO g a k))]) C dX4_strike_146 rfl rfl rfl rfl ?_
            refine v_lo (lo' := [some (.ref (Z.ad 0)), some (.int (nI a)), some (.int (sumI (brO g a) (k + 1))), some (.int (nI (k + 1))), some (.int (brO g a k))]) (by rw [← nI_1 k]) ?_
            refine v_goto (tgt := 81) C dX4_strike_149 (by decide) ?_
            exact ih (k + 1) _ _ (by omega) (by omega) (fun q h1 h2 h3 h4 => by rw [wr_row _ _ _ _ h2, wr_row _ _ _ _ h1]; exact hr q h1 h2 h3 h4) (fun j => by rw [wr_row _ _ _ _ (by decide), wr_row _ _ _ _ (by decide)]; exact h15 j) (fun j => by rw [wr_row _ _ _ _ (by decide), wr_row _ _ _ _ (by decide)]; exact h7 j) (fun j => by by_cases hj : j = k; (· rw [hj, wr_row _ _ _ _ (by decide), wr_same, if_pos (Nat.lt_succ_self k)]); (· rw [wr_row _ _ _ _ (by decide), wr_ne _ _ _ _ (Or.inr hj), h6]; by_cases hc : j < k; (· rw [if_pos hc, if_pos (by omega)]); (· rw [if_neg hc, if_neg (by omega)]))) (fun j => by by_cases hj : j = k; (· rw [hj, wr_same, if_pos (Nat.lt_succ_self k)]); (· rw [wr_ne _ _ _ _ (Or.inr hj), wr_row _ _ _ _ (by decide), h8]; by_cases hc : j < k; (· rw [if_pos hc, if_pos (by omega)]); (· rw [if_neg hc, if_neg (by omega)])))
      have loop1 : ∀ (n k : Nat) (g1 : MG), 50 - k < n → k ≤ 50 → (∀ q, q ≠ 7 → g1 q = (wr g 0 0 0) q) → (∀ j, g1 7 j = if j < k then skO g a j else g 7 j) → V P (rmz 3 62 0 0) Z [some (.ref (Z.ad 0)), some (.int (nI a)), some (.int (nI k)), none, none] 36 [] g1 0 0 := by
        intro n
        induction n with
        | zero => intro k g1 hn; exact absurd hn (Nat.not_lt_zero _)
        | succ n ih =>
          intro k g1 hn hk hr h7
          refine v_iload_n C dX4_strike_36 rfl rfl ?_
          refine v_bipush (v := 50) C dX4_strike_37 (by decide) ?_
          refine v_icmp_ge (tgt := 70) C dX4_strike_39 (by decide) (fun h39 => ?_) (fun h39 => ?_)
          · have hkn : k = 50 := Nat.le_antisymm hk ((nI_leI (a := 50) (by decide) (by omega)).mp h39)
            subst hkn
            refine v_aload_n C dX4_strike_70 rfl rfl ?_
            refine v_get C inG4 rfl 15 (by decide) (tg3 210 rfl rfl) rfl cx_M rfl dX4_strike_71 ?_
            refine v_iload_n C dX4_strike_74 rfl rfl ?_
            refine v_iconst (v := 0) C dX4_strike_75 (by decide) ?_
            refine v_iastN (a := a) C (fun _ _ => cxA15) rfl (by omega) (by omega) dX4_strike_76 ?_
            refine v_iconst (v := 0) C dX4_strike_77 (by decide) ?_
            refine v_topi (y := sumI (brO g a) 0) rfl ?_
            refine v_istore_n (lo' := [some (.ref (Z.ad 0)), some (.int (nI a)), some (.int (sumI (brO g a) 0)), none, none]) C dX4_strike_78 rfl (Nat.le_of_ble_eq_true rfl) rfl rfl ?_
            refine v_iconst (v := 0) C dX4_strike_79 (by decide) ?_
            refine v_topi (y := nI 0) rfl ?_
            refine v_istore_n (lo' := [some (.ref (Z.ad 0)), some (.int (nI a)), some (.int (sumI (brO g a) 0)), some (.int (nI 0)), none]) C dX4_strike_80 rfl (Nat.le_of_ble_eq_true rfl) rfl rfl ?_
            exact loop2 51 0 _ _ (by omega) (by omega) (fun q h1 h2 h3 h4 => by rw [wr_row _ _ _ _ h4]; exact hr q h3) (fun j => by simp only [wr, hr 15 (show 15 ≠ 7 by decide)]; rfl) (fun j => by rw [wr_row _ _ _ _ (by decide)]; exact h7 j) (fun j => by rw [if_neg (Nat.not_lt_zero j), wr_row _ _ _ _ (by decide), hr 6 (by decide)]; rfl) (fun j => by rw [if_neg (Nat.not_lt_zero j), wr_row _ _ _ _ (by decide), hr 8 (by decide)]; rfl)
          · have hkn : k < 50 := Nat.lt_of_not_le fun q => h39 ((nI_leI (a := 50) (by decide) (by omega)).mpr q)
            refine v_aload_n C dX4_strike_42 rfl rfl ?_
            refine v_get C inG4 rfl 7 (by decide) (tg3 202 rfl rfl) rfl cx_M rfl dX4_strike_43 ?_
            refine v_iload_n C dX4_strike_46 rfl rfl ?_
            refine v_dup2 C dX4_strike_47 rfl rfl ?_
            refine v_ialdN (a := k) C cxA7 (by omega) dX4_strike_48 ?_
            refine v_topi (y := g 7 k) (by rw [h7, if_neg (by omega)]) ?_
            refine v_aload_n C dX4_strike_49 rfl rfl ?_
            refine v_iload_n C dX4_strike_50 rfl rfl ?_
            refine v_iload_n C dX4_strike_51 rfl rfl ?_
            refine v_bipush (v := 10) C dX4_strike_52 (by decide) ?_
            refine v_idiv C dX4_strike_54 (by decide) ?_
            refine v_topi (y := nI (k / 10)) (nI_div (b := 10) (by omega) (by decide)) ?_
            refine v_iload_n C dX4_strike_55 rfl rfl ?_
            refine v_bipush (v := 10) C dX4_strike_56 (by decide) ?_
            refine v_irem C dX4_strike_58 (by decide) ?_
            refine v_topi (y := nI (k % 10)) (nI_mod10 (by omega)) ?_
            refine v_callVi (n := 3) (as := [.int (nI a), .int (nI (k / 10)), .int (nI (k % 10))]) C (c_outOf _ Z a (nlO g a) (k / 10) (k % 10) (wdO g) (tkO g) g1 (by omega) (by rw [hr 14 (by decide)]; exact hl.1) hl.2 (by rw [hr 17 (by decide)]; exact IvM_W hI) (by omega) (by omega) (by rw [hr 20 (by decide)]; exact IvM_T hI (by omega) h1)) (gv (tg4 127 rfl rfl) (tg4 129 rfl rfl) (tg0 28 rfl rfl) (tg1 6 rfl rfl) (tg4 130 rfl rfl)) (by decide +kernel) ⟨Nat.le_of_ble_eq_true rfl, Nat.le_of_ble_eq_true rfl⟩ rfl cx_M rfl rfl (Nat.le_of_ble_eq_true rfl) dX4_strike_59 ⟨Nat.le_of_ble_eq_true rfl, Nat.le_of_ble_eq_true rfl⟩ (fun r59 g59 hp59 => ?_)
            obtain ⟨hr59, hg59⟩ := hp59
            rw [hg59]
            have hr59 : r59 = nI (outO g a (k / 10) (k % 10)) := by rw [hr59, hr 18 (by decide)]; rfl
            subst hr59
            refine v_isub C dX4_strike_62 ?_
            refine v_iastN (a := k) C (fun _ _ => cxA7) rfl (by omega) (by omega) dX4_strike_63 ?_
            refine v_iinc (lo' := [some (.ref (Z.ad 0)), some (.int (nI a)), some (.int ((nI k) + 1)), none, none]) C dX4_strike_64 rfl rfl rfl rfl ?_
            refine v_lo (lo' := [some (.ref (Z.ad 0)), some (.int (nI a)), some (.int (nI (k + 1))), none, none]) (by rw [← nI_1 k]) ?_
            refine v_goto (tgt := 36) C dX4_strike_67 (by decide) ?_
            exact ih (k + 1) _ (by omega) (by omega) (fun q hq => by rw [wr_row _ _ _ _ hq]; exact hr q hq) (fun j => by by_cases hj : j = k; (· rw [hj, wr_same, if_pos (by omega)]; rfl); (· rw [wr_ne _ _ _ _ (Or.inr hj), h7]; by_cases hc : j < k; (· rw [if_pos hc, if_pos (by omega)]); (· rw [if_neg hc, if_neg (by omega)])))
      exact loop1 51 0 _ (by omega) (by omega) (fun _ _ => rfl) (fun j => by rw [if_neg (Nat.not_lt_zero j)]; rfl)
    · refine v_aload_n C dX4_strike_28 rfl rfl ?_
      refine v_iconst (v := 2) C dX4_strike_29 (by decide) ?_
      refine v_callVi (n := 1) (as := [.int 2]) C (c_no _ Z 2 (wr g 0 0 0)) (gv (tg4 48 rfl rfl) (tg4 50 rfl rfl) (tg0 20 rfl rfl) (tg1 6 rfl rfl) (tg4 51 rfl rfl)) (by decide +kernel) ⟨Nat.le_of_ble_eq_true rfl, Nat.le_of_ble_eq_true rfl⟩ rfl cx_M rfl rfl (Nat.le_of_ble_eq_true rfl) dX4_strike_30 ⟨Nat.le_of_ble_eq_true rfl, Nat.le_of_ble_eq_true rfl⟩ (fun r30 g30 hp30 => ?_)
      obtain ⟨rfl, hg30⟩ := hp30
      rw [hg30]
      exact ret _ _ _ _ dX4_strike_33 (PM.no (k := 2) (by unfold cdStrike; rw [enp, if_neg (by rw [k10]; decide), ea, if_pos h25]) (by decide) (by unfold stStrike; rw [if_neg (by rw [show cdStrike g (nI a) = 2 by unfold cdStrike; rw [enp, if_neg (by rw [k10]; decide), ea, if_pos h25]]; decide)]) (fun j h1 h2 => wr_ne _ _ _ _ (Or.inr (by omega))) (fun q h1 h2 => wr_row _ _ _ _ (by omega)) (fun q hq => wr_row _ _ _ _ (by omega)))
  · have k10 := bI_0.mp h10
    refine v_aload_n C dX4_strike_13 rfl rfl ?_
    refine v_iconst (v := 1) C dX4_strike_14 (by decide) ?_
    refine v_callVi (n := 1) (as := [.int 1]) C (c_no _ Z 1 (wr g 0 0 0)) (gv (tg4 48 rfl rfl) (tg4 50 rfl rfl) (tg0 20 rfl rfl) (tg1 6 rfl rfl) (tg4 51 rfl rfl)) (by decide +kernel) ⟨Nat.le_of_ble_eq_true rfl, Nat.le_of_ble_eq_true rfl⟩ rfl cx_M rfl rfl (Nat.le_of_ble_eq_true rfl) dX4_strike_15 ⟨Nat.le_of_ble_eq_true rfl, Nat.le_of_ble_eq_true rfl⟩ (fun r15 g15 hp15 => ?_)
    obtain ⟨rfl, hg15⟩ := hp15
    rw [hg15]
    exact ret _ _ _ _ dX4_strike_18 (PM.no (k := 1) (by unfold cdStrike; rw [enp, if_pos k10]) (by decide) (by unfold stStrike; rw [if_neg (by rw [show cdStrike g p = 1 by unfold cdStrike; rw [enp, if_pos k10]]; decide)]) (fun j h1 h2 => wr_ne _ _ _ _ (Or.inr (by omega))) (fun q h1 h2 => wr_row _ _ _ _ (by omega)) (fun q hq => wr_row _ _ _ _ (by omega)))
end
section
/-! MORE ROWS: references, lists, longs -/
def MR (l : Launch) (y : MethodName) (cc : ByteArray) (maxL : Nat) (ret : Option FieldType) (rm : Room) (Z : Zc) (as : List Value) (g : MG) (post : Option Nat → MG → Prop) : Prop := Met l y (wz y cc maxL ret) rm (va_Pc as (fun U => Wd Z g U)) (va_Qq post (fun g' t => Wd Z g' t) (A0 Z.z)) rm.cells rm.slots (A0 Z.z)
theorem ent_q {l : Launch} {y : MethodName} {cc : ByteArray} {maxL : Nat} {cn : String} {rm : Room} {Z : Zc} {as : List Value} {g : MG} {post : Option Nat → MG → Prop} {own : String} {lo : Lo} (hy : plainName y.cls = true) (ho : y.cls = own) (hlen : (lg_sl as).length ≤ maxL) (hlo : loA (lv_args 0 as) maxL = lo)
    (body : ∀ P : Pm, P.2.1 = l → Cx P Z cc own → (∀ (pc : Nat) (lo' : Lo) (v : Option Nat) (g' : MG), decode cc pc = .ok (.areturn, 1) → post v g' → V P rm Z lo' pc [va_rf v] g' rm.cells rm.slots) → V P rm Z lo 0 [] g 0 0) : MR l y cc maxL (some (.object cn)) rm Z as g post := by
  refine Met.ofW (cc := cc) (maxL := maxL) (ret := some (.object cn)) hy rfl ?_
  intro p e s m args below meth c s₁ B hml hv
  obtain ⟨rfl, hw, hK, hz, hst⟩ := hv
  have hts : ∀ w ∈ wsG, w.before as.toArray s = true := fun w h => atoms_spec (ws := wz y cc maxL (some (.object cn))) B.pre w (List.mem_cons_of_mem _ h)
  have hown : s.vm.findClass own = some m.cls := ho ▸ findClass_of_methodNamed B.named
  have hl := lv_entry as hlen
  rw [lg_entry_eq]
  generalize (lg_sl as ++ List.replicate (maxL - (lg_sl as).length) Slot.unset).toArray = ls at hl ⊢
  refine body (p, l, e, s, m, as.toArray, below, meth, c, _, maxL) rfl ⟨B.exec, B.bytes, hml, hown, hts, hK, hz, B.notSynchronized, hst⟩ ?_ ls s.heap [] (hlo ▸ Lv_of hl) hw va_S.rf
  intro pc lo' v g' hdg hp ls H locs hl hw' hS
  exact W.aret B.exec B.bytes B.returns (Or.inl ⟨cn, rfl⟩) (va_rf_or v) (fun t ht hW => ⟨⟨v, g', rfl, hp, Wd_of hw' hK hz hst hS ht hW.alike⟩, hS.F ht⟩) hS.2.2 hdg
theorem ent_l {l : Launch} {y : MethodName} {cc : ByteArray} {maxL : Nat} {rm : Room} {Z : Zc} {as : List Value} {g : MG} {post : Int64 → MG → Prop} {own : String} {lo : Lo} (hy : plainName y.cls = true) (ho : y.cls = own) (hlen : (lg_sl as).length ≤ maxL) (hlo : loA (lv_args 0 as) maxL = lo)
    (body : ∀ P : Pm, P.2.1 = l → Cx P Z cc own → (∀ (pc : Nat) (lo' : Lo) (v : Int64) (g' : MG), decode cc pc = .ok (.lreturn, 1) → post v g' → V P rm Z lo' pc [.long v] g' rm.cells rm.slots) → V P rm Z lo 0 [] g 0 0) : ML l y cc maxL rm Z as g post := by
  refine Met.ofW (cc := cc) (maxL := maxL) (ret := some .long) hy rfl ?_
  intro p e s m args below meth c s₁ B hml hv
  obtain ⟨rfl, hw, hK, hz, hst⟩ := hv
  have hts : ∀ w ∈ wsG, w.before as.toArray s = true := fun w h => atoms_spec (ws := wz y cc maxL (some .long)) B.pre w (List.mem_cons_of_mem _ h)
  have hown : s.vm.findClass own = some m.cls := ho ▸ findClass_of_methodNamed B.named
  have hl := lv_entry as hlen
  rw [lg_entry_eq]
  generalize (lg_sl as ++ List.replicate (maxL - (lg_sl as).length) Slot.unset).toArray = ls at hl ⊢
  refine body (p, l, e, s, m, as.toArray, below, meth, c, _, maxL) rfl ⟨B.exec, B.bytes, hml, hown, hts, hK, hz, B.notSynchronized, hst⟩ ?_ ls s.heap [] (hlo ▸ Lv_of hl) hw va_S.rf
  intro pc lo' v g' hdg hp ls H locs hl hw' hS
  exact W.lret B.exec B.bytes B.returns (fun t ht hW => ⟨⟨v, g', rfl, hp, Wd_of hw' hK hz hst hS ht hW.alike⟩, hS.F ht⟩) hS.2.2 hdg
theorem gs2 {own : String} {idx : Nat} {y : MethodName} {cc : ByteArray} {maxL : Nat} {ret : Option FieldType} (h1 : Cond.methodLink own idx y ∈ wsG) (h2 : Cond.static y ∈ wsG) (h4 : Cond.initialized y.cls ∈ wsG) (h5 : Cond.code y cc maxL ret ∈ wsG) : GoodIn wsG (va_wsS own idx y (wz y cc maxL ret)) := by
  intro w hw
  have : w ∈ wsG := by
    simp only [va_wsS, List.mem_append, List.mem_cons, List.not_mem_nil, or_false] at hw
    rcases hw with (rfl | rfl | rfl) | rfl | hw
    · exact h1
    · exact h2
    · exact h4
    · exact h5
    · exact hw
  exact ⟨this, good_all this⟩
section VR4
variable {P : Pm} {R : Room} {Z : Zc} {cc : ByteArray} {own : String} {lo : Lo} {pc : Nat} {rest st : List Value} {g : MG} {cs sl : Nat}
theorem v_null (C : Cx P Z cc own) (hdg : decode cc pc = .ok (.aconst_null, 1)) (kk : V P R Z lo (pc + 1) (.null :: rest) g cs sl) : V P R Z lo pc rest g cs sl := by
  obtain ⟨p, l, e, s, m, args, below, meth, c, Q, nL⟩ := P
  exact fun ls H locs hl hw hS => lv_null C.1 C.2.1 hdg (kk ls H locs hl hw hS)
theorem v_aald (C : Cx P Z cc own) {k n a : Nat} {f : Nat → Option Nat} (hk : cx Z.Y Z.ad Z.df g k = some (.inl (Z.Y.2.1, n, .inr (.inr (.inr (.inr f)))))) (ha : a < n ∧ n < 2147483648) (hdg : decode cc pc = .ok (.aaload, 1)) (kk : V P R Z lo (pc + 1) (va_rf (f a) :: rest) g cs sl) : V P R Z lo pc (.int (nI a) :: .ref (Z.ad k) :: rest) g cs sl := by
  obtain ⟨p, l, e, s, m, args, below, meth, c, Q, nL⟩ := P
  intro ls H locs hl hw hS
  have hP : va_P Z.D vwCl [(Z.ad k, .inl (Z.Y.2.1, n, .inr (.inr (.inr (.inr f)))))] H := by
    intro i q hq
    rcases List.mem_singleton.mp (List.mem_of_getElem? hq) with rfl
    exact (hw.1 k _ hk).1
  have ea : (nI a).toNatClampNeg = a := nI_clamp (by have := ha.1; have := ha.2; omega)
  exact va_aldq (D := Z.D) C.1 C.2.1 C.2.2.2.2.2.1 hP 0 1 rfl rfl (vp_in_nI ha.1 ha.2) hdg (by rw [ea]; exact kk ls H locs hl hw hS)
theorem v_callSxi (C : Cx P Z cc own) {y : MethodName} {cc' : ByteArray} {maxL idx n : Nat} {ret : Option FieldType} {rm' : Room} {as : List Value} {post : Int32 → MG → Prop} (hM : MI P.2.1 y cc' maxL ret rm' Z as g post) (hG : GoodIn wsG (va_wsS own idx y (wz y cc' maxL ret)))
    (hd : y.cls ≠ "java/lang/invoke/MethodHandle" ∧ y.cls ≠ "java/lang/invoke/VarHandle" ∧ (parseMethodDescriptor y.desc).map (fun d => d.parameters.length) = some n) (hR : rm'.frames + 1 ≤ R.frames ∧ 8 + (maxL + 11) + rm'.locals ≤ R.locals) (hn : as.length = n) (hst : st = as.reverse ++ rest) (hr : (rest.map fun v => v.category).sum ≤ 8) (hdg : decode cc pc = .ok (.invokestatic idx, 3)) (hf : cs + rm'.cells ≤ R.cells ∧ sl + rm'.slots ≤ R.slots)
    (kk : ∀ (r : Int32) (g' : MG), post r g' → V P R Z lo (pc + 3) (.int r :: rest) g' (cs + rm'.cells) (sl + rm'.slots)) : V P R Z lo pc st g cs sl := by
  obtain ⟨p, l, e, s, m, args, below, meth, c, Q, nL⟩ := P
  subst hst
  intro ls H locs hl hw hS
  refine va_calli (va_runS (As := as) (rest := rest) ⟨C.1, C.2.1, C.2.2.1, C.2.2.2.1, C.2.2.2.2.1⟩ hM (va_cwS n C.2.2.2.2.1 hG rfl rfl rfl hd hR) ⟨Wd_fb, fun U hU hW => ⟨rfl, Wd_of hw C.2.2.2.2.2.1 C.2.2.2.2.2.2.1 C.2.2.2.2.2.2.2.2 hS hU hW.alike⟩⟩ rfl hn hl.2.1 rfl (lv_room hr) hdg hf) hS (fun _ _ h => h) (fun _ h => h) (fun r u t H1 locs1 ht hvm hp hB hz1 hk1 hS1 => ?_)
  refine kk r u hp ls H1 locs1 hl ?_ hS1
  rw [← ht]; exact hB.1
theorem v_callSxv (C : Cx P Z cc own) {y : MethodName} {cc' : ByteArray} {maxL idx n : Nat} {rm' : Room} {as : List Value} {post : MG → Prop} (hM : MV P.2.1 y cc' maxL rm' Z as g post) (hG : GoodIn wsG (va_wsS own idx y (wz y cc' maxL none)))
    (hd : y.cls ≠ "java/lang/invoke/MethodHandle" ∧ y.cls ≠ "java/lang/invoke/VarHandle" ∧ (parseMethodDescriptor y.desc).map (fun d => d.parameters.length) = some n) (hR : rm'.frames + 1 ≤ R.frames ∧ 8 + (maxL + 11) + rm'.locals ≤ R.locals) (hn : as.length = n) (hst : st = as.reverse ++ rest) (hr : (rest.map fun v => v.category).sum ≤ 8) (hdg : decode cc pc = .ok (.invokestatic idx, 3)) (hf : cs + rm'.cells ≤ R.cells ∧ sl + rm'.slots ≤ R.slots)
    (kk : ∀ (g' : MG), post g' → V P R Z lo (pc + 3) rest g' (cs + rm'.cells) (sl + rm'.slots)) : V P R Z lo pc st g cs sl := by
  obtain ⟨p, l, e, s, m, args, below, meth, c, Q, nL⟩ := P
  subst hst
  intro ls H locs hl hw hS
  refine va_callv (va_runS (As := as) (rest := rest) ⟨C.1, C.2.1, C.2.2.1, C.2.2.2.1, C.2.2.2.2.1⟩ hM (va_cwS n C.2.2.2.2.1 hG rfl rfl rfl hd hR) ⟨Wd_fb, fun U hU hW => ⟨rfl, Wd_of hw C.2.2.2.2.2.1 C.2.2.2.2.2.2.1 C.2.2.2.2.2.2.2.2 hS hU hW.alike⟩⟩ rfl hn hl.2.1 rfl (lv_room hr) hdg hf) hS (fun _ _ h => h) (fun _ h => h) (fun u t H1 locs1 ht hvm hp hB hz1 hk1 hS1 => ?_)
  refine kk u hp ls H1 locs1 hl ?_ hS1
  rw [← ht]; exact hB.1
theorem v_callVq (C : Cx P Z cc own) {y : MethodName} {cc' : ByteArray} {maxL idx n k ci N : Nat} {ret : Option FieldType} {rm' : Room} {as : List Value} {post : Option Nat → MG → Prop} {Cn : String} {T : u_T} {fs : List Value} (hM : MR P.2.1 y cc' maxL ret rm' Z (.ref (Z.ad k) :: as) g post) (hG : GoodIn wsG (wsV own idx Cn y (wz y cc' maxL ret)))
    (hd : y.cls = Cn ∧ y.cls ≠ "java/lang/invoke/MethodHandle" ∧ y.cls ≠ "java/lang/invoke/VarHandle" ∧ (parseMethodDescriptor y.desc).map (fun d => d.parameters.length) = some n) (hR : rm'.frames + 1 ≤ R.frames ∧ 8 + (maxL + 11) + rm'.locals ≤ R.locals) (hc : vwCl[ci]? = some (Cn, T, N)) (hk : cx Z.Y Z.ad Z.df g k = some (.inr (ci, fs))) (hn : as.length = n) (hst : st = as.reverse ++ .ref (Z.ad k) :: rest) (hr : (rest.map fun v => v.category).sum ≤ 8) (hdg : decode cc pc = .ok (.invokevirtual idx, 3)) (hf : cs + rm'.cells ≤ R.cells ∧ sl + rm'.slots ≤ R.slots)
    (kk : ∀ (r : Option Nat) (g' : MG), post r g' → V P R Z lo (pc + 3) (va_rf r :: rest) g' (cs + rm'.cells) (sl + rm'.slots)) : V P R Z lo pc st g cs sl := by
  obtain ⟨p, l, e, s, m, args, below, meth, c, Q, nL⟩ := P
  subst hst
  intro ls H locs hl hw hS
  have hP : va_P Z.D vwCl [(Z.ad k, .inr (ci, fs))] H := by
    intro i q hq
    rcases List.mem_singleton.mp (List.mem_of_getElem? hq) with rfl
    exact (hw.1 k _ hk).1
  refine va_callq (va_runV (As := as) (rest := rest) ⟨C.1, C.2.1, C.2.2.1, C.2.2.2.1, C.2.2.2.2.1⟩ hM (cwV n C.2.2.2.2.1 hG rfl rfl rfl hd hR) ⟨Wd_fb, va_recv C.2.2.2.2.2.1 hP hc (q0 := 0) rfl, fun U hU hW => ⟨rfl, Wd_of hw C.2.2.2.2.2.1 C.2.2.2.2.2.2.1 C.2.2.2.2.2.2.2.2 hS hU hW.alike⟩⟩ rfl hn hl.2.1 rfl (lv_room hr) hdg hf) hS (fun _ _ h => h) (fun _ h => h) (fun r u t H1 locs1 ht hvm hp hB hz1 hk1 hS1 => ?_)
  refine kk r u hp ls H1 locs1 hl ?_ hS1
  rw [← ht]; exact hB.1
theorem v_callVl (C : Cx P Z cc own) {y : MethodName} {cc' : ByteArray} {maxL idx n k ci N : Nat} {rm' : Room} {as : List Value} {post : Int64 → MG → Prop} {Cn : String} {T : u_T} {fs : List Value} (hM : ML P.2.1 y cc' maxL rm' Z (.ref (Z.ad k) :: as) g post) (hG : GoodIn wsG (wsV own idx Cn y (wz y cc' maxL (some .long))))
    (hd : y.cls = Cn ∧ y.cls ≠ "java/lang/invoke/MethodHandle" ∧ y.cls ≠ "java/lang/invoke/VarHandle" ∧ (parseMethodDescriptor y.desc).map (fun d => d.parameters.length) = some n) (hR : rm'.frames + 1 ≤ R.frames ∧ 8 + (maxL + 11) + rm'.locals ≤ R.locals) (hc : vwCl[ci]? = some (Cn, T, N)) (hk : cx Z.Y Z.ad Z.df g k = some (.inr (ci, fs))) (hn : as.length = n) (hst : st = as.reverse ++ .ref (Z.ad k) :: rest) (hr : (rest.map fun v => v.category).sum ≤ 8) (hdg : decode cc pc = .ok (.invokevirtual idx, 3)) (hf : cs + rm'.cells ≤ R.cells ∧ sl + rm'.slots ≤ R.slots)
    (kk : ∀ (r : Int64) (g' : MG), post r g' → V P R Z lo (pc + 3) (.long r :: rest) g' (cs + rm'.cells) (sl + rm'.slots)) : V P R Z lo pc st g cs sl := by
  obtain ⟨p, l, e, s, m, args, below, meth, c, Q, nL⟩ := P
  subst hst
  intro ls H locs hl hw hS
  have hP : va_P Z.D vwCl [(Z.ad k, .inr (ci, fs))] H := by
    intro i q hq
    rcases List.mem_singleton.mp (List.mem_of_getElem? hq) with rfl
    exact (hw.1 k _ hk).1
  refine va_calll (va_runV (As := as) (rest := rest) ⟨C.1, C.2.1, C.2.2.1, C.2.2.2.1, C.2.2.2.2.1⟩ hM (cwV n C.2.2.2.2.1 hG rfl rfl rfl hd hR) ⟨Wd_fb, va_recv C.2.2.2.2.2.1 hP hc (q0 := 0) rfl, fun U hU hW => ⟨rfl, Wd_of hw C.2.2.2.2.2.1 C.2.2.2.2.2.2.1 C.2.2.2.2.2.2.2.2 hS hU hW.alike⟩⟩ rfl hn hl.2.1 rfl (lv_room hr) hdg hf) hS (fun _ _ h => h) (fun _ h => h) (fun r u t H1 locs1 ht hvm hp hB hz1 hk1 hS1 => ?_)
  refine kk r u hp ls H1 locs1 hl ?_ hS1
  rw [← ht]; exact hB.1
theorem v_lload_n (C : Cx P Z cc own) {k : Fin 4} {i : Nat} {x : Int64} (hdg : decode cc pc = .ok (.lload_n k, 1)) (hi : (k : Nat) = i) (hl0 : lo[i]? = some (some (.long x))) (kk : V P R Z lo (pc + 1) (.long x :: rest) g cs sl) : V P R Z lo pc rest g cs sl := by
  obtain ⟨p, l, e, s, m, args, below, meth, c, Q, nL⟩ := P
  exact fun ls H locs hl hw hS => lv_lload_n C.1 C.2.1 hdg hi (hl.at hl0) (kk ls H locs hl hw hS)
theorem v_lload (C : Cx P Z cc own) {i : Nat} {x : Int64} (hdg : decode cc pc = .ok (.lload i, 2)) (hl0 : lo[i]? = some (some (.long x))) (kk : V P R Z lo (pc + 2) (.long x :: rest) g cs sl) : V P R Z lo pc rest g cs sl := by
  obtain ⟨p, l, e, s, m, args, below, meth, c, Q, nL⟩ := P
  exact fun ls H locs hl hw hS => lv_lload C.1 C.2.1 hdg (hl.at hl0) (kk ls H locs hl hw hS)
theorem v_lstore_n (C : Cx P Z cc own) {k : Fin 4} {i : Nat} {x : Int64} {lo' : Lo} (hdg : decode cc pc = .ok (.lstore_n k, 1)) (hi : (k : Nat) = i) (hlt : i + 1 < lo.length) (hck : ck1 lo i = true) (he : (lo.set i (some (.long x))).set (i + 1) none = lo') (kk : V P R Z lo' (pc + 1) rest g cs sl) : V P R Z lo pc (.long x :: rest) g cs sl := by
  obtain ⟨p, l, e, s, m, args, below, meth, c, Q, nL⟩ := P
  subst he
  exact fun ls H locs hl hw hS => lv_lstore_n C.1 C.2.1 hdg hi hl.2 (Nat.lt_of_lt_of_le hlt hl.1) rfl (fun ls' h' => kk ls' H locs (Lv.st2 hl.1 hlt hck h') hw hS)
theorem v_lstore (C : Cx P Z cc own) {i : Nat} {x : Int64} {lo' : Lo} (hdg : decode cc pc = .ok (.lstore i, 2)) (hlt : i + 1 < lo.length) (hck : ck1 lo i = true) (he : (lo.set i (some (.long x))).set (i + 1) none = lo') (kk : V P R Z lo' (pc + 2) rest g cs sl) : V P R Z lo pc (.long x :: rest) g cs sl := by
  obtain ⟨p, l, e, s, m, args, below, meth, c, Q, nL⟩ := P
  subst he
  exact fun ls H locs hl hw hS => lv_lstore C.1 C.2.1 hdg hl.2 (Nat.lt_of_lt_of_le hlt hl.1) rfl (fun ls' h' => kk ls' H locs (Lv.st2 hl.1 hlt hck h') hw hS)
theorem v_ladd (C : Cx P Z cc own) {x y : Int64} (hdg : decode cc pc = .ok (.ladd, 1)) (kk : V P R Z lo (pc + 1) (.long (x + y) :: rest) g cs sl) : V P R Z lo pc (.long y :: .long x :: rest) g cs sl := by
  obtain ⟨p, l, e, s, m, args, below, meth, c, Q, nL⟩ := P
  exact fun ls H locs hl hw hS => lv_ladd C.1 C.2.1 hdg (kk ls H locs hl hw hS)
theorem v_lmul (C : Cx P Z cc own) {x y : Int64} (hdg : decode cc pc = .ok (.lmul, 1)) (kk : V P R Z lo (pc + 1) (.long (x * y) :: rest) g cs sl) : V P R Z lo pc (.long y :: .long x :: rest) g cs sl := by
  obtain ⟨p, l, e, s, m, args, below, meth, c, Q, nL⟩ := P
  exact fun ls H locs hl hw hS => lv_lmul C.1 C.2.1 hdg (kk ls H locs hl hw hS)
theorem v_i2l (C : Cx P Z cc own) {x : Int32} (hdg : decode cc pc = .ok (.i2l, 1)) (kk : V P R Z lo (pc + 1) (.long x.toInt64 :: rest) g cs sl) : V P R Z lo pc (.int x :: rest) g cs sl := by
  obtain ⟨p, l, e, s, m, args, below, meth, c, Q, nL⟩ := P
  exact fun ls H locs hl hw hS => lv_i2l C.1 C.2.1 hdg rfl (kk ls H locs hl hw hS)
theorem v_topl {x y : Int64} (h : x = y) (k : V P R Z lo pc (.long y :: rest) g cs sl) : V P R Z lo pc (.long x :: rest) g cs sl := by rw [h]; exact k
theorem v_st {st' : List Value} (h : st = st') (k : V P R Z lo pc st' g cs sl) : V P R Z lo pc st g cs sl := by rw [h]; exact k
/-- checkcast of an object of just that class -/
theorem v_cast (C : Cx P Z cc own) {Cn : String} {T : u_T} {N ci idx : Nat} (hc : vwCl[ci]? = some (Cn, T, N)) (hlink : Cond.classLink own idx Cn ∈ wsG) {k : Nat} {fs : List Value} (hk : cx Z.Y Z.ad Z.df g k = some (.inr (ci, fs))) (hdg : decode cc pc = .ok (.checkcast idx, 3)) (kk : V P R Z lo (pc + 3) (.ref (Z.ad k) :: rest) g cs sl) : V P R Z lo pc (.ref (Z.ad k) :: rest) g cs sl := by
  obtain ⟨p, l, e, s, m, args, below, meth, c, Q, nL⟩ := P
  intro ls H locs hl hw hS
  have hP : va_P Z.D vwCl [(Z.ad k, .inr (ci, fs))] H := by
    intro i q hq
    rcases List.mem_singleton.mp (List.mem_of_getElem? hq) with rfl
    exact (hw.1 k _ hk).1
  exact va_castS C.1 C.2.1 C.2.2.2.1 (C.2.2.2.2.1 _ hlink) (C.2.2.2.2.2.1.1 ci _ hc).2 (va_recv C.2.2.2.2.2.1 hP hc (q0 := 0) rfl) hdg (kk ls H locs hl hw hS)
theorem v_ifnull (C : Cx P Z cc own) {x : Nat} {off : Int} (hdg : decode cc pc = .ok (.ifnull off, 3)) (kk : V P R Z lo (pc + 3) rest g cs sl) : V P R Z lo pc (.ref x :: rest) g cs sl := by
  obtain ⟨p, l, e, s, m, args, below, meth, c, Q, nL⟩ := P
  exact fun ls H locs hl hw hS => lv_ifnull C.1 C.2.1 hdg (kk ls H locs hl hw hS)
theorem v_ifnonnull (C : Cx P Z cc own) {x : Nat} {off : Int} {tgt : Nat} (hdg : decode cc pc = .ok (.ifnonnull off, 3)) (ht : (pc : Int) + off = (tgt : Int)) (kk : V P R Z lo tgt rest g cs sl) : V P R Z lo pc (.ref x :: rest) g cs sl := by
  obtain ⟨p, l, e, s, m, args, below, meth, c, Q, nL⟩ := P
  exact fun ls H locs hl hw hS => lv_ifnonnull C.1 C.2.1 hdg ht (kk ls H locs hl hw hS)
theorem v_ifnullN (C : Cx P Z cc own) {off : Int} {tgt : Nat} (hdg : decode cc pc = .ok (.ifnull off, 3)) (ht : (pc : Int) + off = (tgt : Int)) (kk : V P R Z lo tgt rest g cs sl) : V P R Z lo pc (.null :: rest) g cs sl := by
  obtain ⟨p, l, e, s, m, args, below, meth, c, Q, nL⟩ := P
  exact fun ls H locs hl hw hS => lv_ifnullN C.1 C.2.1 hdg ht (kk ls H locs hl hw hS)
theorem v_ifnonnullN (C : Cx P Z cc own) {off : Int} (hdg : decode cc pc = .ok (.ifnonnull off, 3)) (kk : V P R Z lo (pc + 3) rest g cs sl) : V P R Z lo pc (.null :: rest) g cs sl := by
  obtain ⟨p, l, e, s, m, args, below, meth, c, Q, nL⟩ := P
  exact fun ls H locs hl hw hS => lv_ifnonnullN C.1 C.2.1 hdg (kk ls H locs hl hw hS)
theorem v_acmp_ne (C : Cx P Z cc own) {rx ry : Option Nat} {off : Int} {tgt : Nat} (hdg : decode cc pc = .ok (.if_acmp .ne off, 3)) (ht : (pc : Int) + off = (tgt : Int)) (kt : ¬ rx = ry → V P R Z lo tgt rest g cs sl) (kf : rx = ry → V P R Z lo (pc + 3) rest g cs sl) : V P R Z lo pc (va_rf ry :: va_rf rx :: rest) g cs sl := by
  obtain ⟨p, l, e, s, m, args, below, meth, c, Q, nL⟩ := P
  exact fun ls H locs hl hw hS => lv_acmp_ne C.1 C.2.1 hdg ht (fun h => kt h ls H locs hl hw hS) (fun h => kf h ls H locs hl hw hS)
theorem v_aload_nN (C : Cx P Z cc own) {k : Fin 4} {i : Nat} (hdg : decode cc pc = .ok (.aload_n k, 1)) (hi : (k : Nat) = i) (hl0 : lo[i]? = some (some .null)) (kk : V P R Z lo (pc + 1) (.null :: rest) g cs sl) : V P R Z lo pc rest g cs sl := by
  obtain ⟨p, l, e, s, m, args, below, meth, c, Q, nL⟩ := P
  exact fun ls H locs hl hw hS => lv_aload_nN C.1 C.2.1 hdg hi (hl.at hl0) (kk ls H locs hl hw hS)
theorem v_aloadN (C : Cx P Z cc own) {i : Nat} (hdg : decode cc pc = .ok (.aload i, 2)) (hl0 : lo[i]? = some (some .null)) (kk : V P R Z lo (pc + 2) (.null :: rest) g cs sl) : V P R Z lo pc rest g cs sl := by
  obtain ⟨p, l, e, s, m, args, below, meth, c, Q, nL⟩ := P
  exact fun ls H locs hl hw hS => lv_aloadN C.1 C.2.1 hdg (hl.at hl0) (kk ls H locs hl hw hS)
theorem v_astore_nN (C : Cx P Z cc own) {k : Fin 4} {i : Nat} {lo' : Lo} (hdg : decode cc pc = .ok (.astore_n k, 1)) (hi : (k : Nat) = i) (hlt : i < lo.length) (hck : ck1 lo i = true) (he : lo.set i (some .null) = lo') (kk : V P R Z lo' (pc + 1) rest g cs sl) : V P R Z lo pc (.null :: rest) g cs sl := by
  obtain ⟨p, l, e, s, m, args, below, meth, c, Q, nL⟩ := P
  subst he
  exact fun ls H locs hl hw hS => lv_astore_nN C.1 C.2.1 hdg hi hl.2 (Nat.lt_of_lt_of_le hlt hl.1) rfl (fun ls' h' => kk ls' H locs (Lv.st1 hl.1 hlt hck h') hw hS)
theorem v_astoreN (C : Cx P Z cc own) {i : Nat} {lo' : Lo} (hdg : decode cc pc = .ok (.astore i, 2)) (hlt : i < lo.length) (hck : ck1 lo i = true) (he : lo.set i (some .null) = lo') (kk : V P R Z lo' (pc + 2) rest g cs sl) : V P R Z lo pc (.null :: rest) g cs sl := by
  obtain ⟨p, l, e, s, m, args, below, meth, c, Q, nL⟩ := P
  subst he
  exact fun ls H locs hl hw hS => lv_astoreN C.1 C.2.1 hdg hl.2 (Nat.lt_of_lt_of_le hlt hl.1) rfl (fun ls' h' => kk ls' H locs (Lv.st1 hl.1 hlt hck h') hw hS)
end VR4
end
