/-! the class: texts -/
def ra_fa (cs : List Nat) (σ σ' : ra_St) : Prop := ∀ c, c ∉ cs → σ' c = σ c
theorem ra_fa.rf {cs : List Nat} {σ : ra_St} : ra_fa cs σ σ := fun _ _ => rfl
theorem ra_fa.tr {cs cs' : List Nat} {σ σ' σ'' : ra_St} (h : ra_fa cs σ σ') (h2 : ra_fa cs' σ' σ'') (hs : ∀ c ∈ cs', c ∈ cs) : ra_fa cs σ σ'' :=
  fun c hc => (h2 c (fun q => hc (hs c q))).trans (h c hc)
theorem ra_fa.mono {cs cs' : List Nat} {σ σ' : ra_St} (h : ra_fa cs σ σ') (hs : ∀ c ∈ cs, c ∈ cs') : ra_fa cs' σ σ' := fun c hc => h c (fun q => hc (hs c q))
theorem ra_fa.sw {cs : List Nat} {σ σ' : ra_St} {c i : Nat} {v : Int32} (h : ra_fa cs σ σ') (hc : c ∈ cs) : ra_fa cs σ (ra_sw σ' c i v) :=
  fun d hd => (ra_su_ne _ _ (fun q => hd (by rw [q]; exact hc))).trans (h d hd)
def rc_T (a : Ab) (σ : ra_St) : Prop := σ 2 1 = nI 40 ∧ σ 4 1 = nI 10 ∧ σ 2 2 = nI (a 0 0) ∧ σ 4 2 = nI (a 0 1) ∧ (∀ i, i < a 0 0 → σ 3 i = nI (a 1 i)) ∧ ∀ i, i < a 0 1 → σ 5 i = nI (a 2 i)
theorem rc_T.fa {a : Ab} {σ σ' : ra_St} {cs : List Nat} (h : rc_T a σ) (hf : ra_fa cs σ σ') (hs : 2 ∉ cs ∧ 3 ∉ cs ∧ 4 ∉ cs ∧ 5 ∉ cs) : rc_T a σ' := by
  unfold rc_T
  rw [hf 2 hs.1, hf 3 hs.2.1, hf 4 hs.2.2.1, hf 5 hs.2.2.2]
  exact h
def sp_T_isFigureAt  : ra_Sp := ra_f1 2 (fun x σ Z => vp_in x 40 ∧ ra_bz (48 ≤ σ 3 x.toNatClampNeg ∧ σ 3 x.toNatClampNeg ≤ 57) Z σ)
theorem q_T_isFigureAt  {oo : Nat} {x : Int32} {σ : ra_St} {Z : ra_R} : sp_T_isFigureAt  [.ref oo, .int x] σ Z = (oo = 2 ∧ (vp_in x 40 ∧ ra_bz (48 ≤ σ 3 x.toNatClampNeg ∧ σ 3 x.toNatClampNeg ≤ 57) Z σ)) := rfl
theorem k_T_isFigureAt {l : Launch} {X : ra_X} : ra_MOK l X mi_T_isFigureAt sp_T_isFigureAt := by
  refine g_T_isFigureAt sp_T_isFigureAt ?_
  intro as σ Z _ _ h
  obtain ⟨x, rfl, hx, hZ⟩ := x_f1 h
  obtain ⟨x, hx2, rfl⟩ := vp_in_of hx (by decide)
  rw [n_cl (by omega)] at hZ
  simp (disch := omega) only [b_T_isFigureAt_27, b_T_isFigureAt_26, b_T_isFigureAt_22, b_T_isFigureAt_11, b_T_isFigureAt_0, e_al0, e_il1, e_c, e_b2, e_gr, e_ald, e_zr, cl_2, cl_3, ln_3, cl_4, cl_5, ln_5, tg_2_0, tg_4_0, Nat.reduceAdd, true_and, and_true, true_implies, not_true_eq_false, false_implies, not_false_eq_true, imp_self, forall_const, List.append_nil, ra_I, ra_J, ra_pad, true_or, or_true, Nat.reduceEqDiff, ra_bz, eq_self, if_true, if_false, false_and, and_false, Nat.zero_le, List.cons_append, List.nil_append, Nat.reduceLT, Nat.reduceLeDiff, Nat.reduceMul, Nat.reduceSub, n_0, n_1, n_2, n_3, n_4, n_5, n_6, n_7, n_8, n_9, n_10, n_12, n_40, n_48, n_57, n_59, n_72, n_99, n_102, n_103, n_107, n_108, n_192, n_255, n_256, n_999, n_1000, n_104, nI_add, pk_mul, n_cl, n_inT, n_le, n_lt, n_eq, n_m1, n_m1', n_lem1, n_m1le, n_ltm1, n_m1lt, n_lepred, n_shl, fa_or]
  refine ⟨fun q => hZ.2 (fun z => (fa_of_lt q).2.1 z.1), fun q => ⟨fun q2 => hZ.2 (fun z => (fa_of_lt q2).2.1 z.2), fun q2 => hZ.1 ⟨fa_of_nlt q, fa_of_nlt q2⟩⟩⟩
def sp_T_figureAt (o : Nat) : ra_Sp := ra_f1 o (fun x σ Z => (o = 2 ∨ o = 4) ∧ vp_in x 40 ∧ Z (some (.int (σ (o + 1) x.toNatClampNeg - 48))) σ)
theorem q_T_figureAt {o : Nat} {oo : Nat} {x : Int32} {σ : ra_St} {Z : ra_R} : sp_T_figureAt o [.ref oo, .int x] σ Z = (oo = o ∧ ((o = 2 ∨ o = 4) ∧ vp_in x 40 ∧ Z (some (.int (σ (o + 1) x.toNatClampNeg - 48))) σ)) := rfl
theorem k_T_figureAt {l : Launch} {X : ra_X} {o : Nat} : ra_MOK l X mi_T_figureAt (sp_T_figureAt o) := by
  refine g_T_figureAt (sp_T_figureAt o) ?_
  intro as σ Z _ _ h
  obtain ⟨x, rfl, ho, hx, hZ⟩ := x_f1 h
  obtain ⟨x, hx2, rfl⟩ := vp_in_of hx (by decide)
  rw [n_cl (by omega)] at hZ
  rcases ho with rfl | rfl
  · simp (disch := omega) only [b_T_figureAt_0, e_al0, e_il1, e_c, e_i2, e_gr, e_ald, e_ir, cl_2, cl_3, ln_3, cl_4, cl_5, ln_5, tg_2_0, tg_4_0, Nat.reduceAdd, true_and, and_true, true_implies, not_true_eq_false, false_implies, not_false_eq_true, imp_self, forall_const, List.append_nil, ra_I, ra_J, ra_pad, true_or, or_true, Nat.reduceEqDiff, ra_bz, eq_self, if_true, if_false, false_and, and_false, Nat.zero_le, List.cons_append, List.nil_append, Nat.reduceLT, Nat.reduceLeDiff, Nat.reduceMul, Nat.reduceSub, n_0, n_1, n_2, n_3, n_4, n_5, n_6, n_7, n_8, n_9, n_10, n_12, n_40, n_48, n_57, n_59, n_72, n_99, n_102, n_103, n_107, n_108, n_192, n_255, n_256, n_999, n_1000, n_104, nI_add, pk_mul, n_cl, n_inT, n_le, n_lt, n_eq, n_m1, n_m1', n_lem1, n_m1le, n_ltm1, n_m1lt, n_lepred, n_shl, fa_or]
    exact hZ
  · simp (disch := omega) only [b_T_figureAt_0, e_al0, e_il1, e_c, e_i2, e_gr, e_ald, e_ir, cl_2, cl_3, ln_3, cl_4, cl_5, ln_5, tg_2_0, tg_4_0, Nat.reduceAdd, true_and, and_true, true_implies, not_true_eq_false, false_implies, not_false_eq_true, imp_self, forall_const, List.append_nil, ra_I, ra_J, ra_pad, true_or, or_true, Nat.reduceEqDiff, ra_bz, eq_self, if_true, if_false, false_and, and_false, Nat.zero_le, List.cons_append, List.nil_append, Nat.reduceLT, Nat.reduceLeDiff, Nat.reduceMul, Nat.reduceSub, n_0, n_1, n_2, n_3, n_4, n_5, n_6, n_7, n_8, n_9, n_10, n_12, n_40, n_48, n_57, n_59, n_72, n_99, n_102, n_103, n_107, n_108, n_192, n_255, n_256, n_999, n_1000, n_104, nI_add, pk_mul, n_cl, n_inT, n_le, n_lt, n_eq, n_m1, n_m1', n_lem1, n_m1le, n_ltm1, n_m1lt, n_lepred, n_shl, fa_or]
    exact hZ
def sp_V_textOf  : ra_Sp := ra_f1 1 (fun x σ Z => (x = 0 → Z (some (.ref 2)) σ) ∧ (¬ x = 0 → Z (some (.ref 4)) σ))
theorem q_V_textOf  {oo : Nat} {x : Int32} {σ : ra_St} {Z : ra_R} : sp_V_textOf  [.ref oo, .int x] σ Z = (oo = 1 ∧ ((x = 0 → Z (some (.ref 2)) σ) ∧ (¬ x = 0 → Z (some (.ref 4)) σ))) := rfl
theorem k_V_textOf {l : Launch} {X : ra_X} : ra_MOK l X mi_V_textOf sp_V_textOf := by
  refine g_V_textOf sp_V_textOf ?_
  intro as σ Z _ _ h
  obtain ⟨x, rfl, hZ⟩ := x_f1 h
  simp (disch := omega) only [b_V_textOf_15, b_V_textOf_11, b_V_textOf_4, b_V_textOf_0, e_al0, e_il1, e_b1, e_gr, e_ar, cl_1, cl_2, cl_4, tg_1_0, tg_1_1, Nat.reduceAdd, true_and, and_true, true_implies, not_true_eq_false, false_implies, not_false_eq_true, imp_self, forall_const, List.append_nil, ra_I, ra_J, ra_pad, true_or, or_true, Nat.reduceEqDiff, ra_bz, eq_self, if_true, if_false, false_and, and_false, Nat.zero_le, List.cons_append, List.nil_append, Nat.reduceLT, Nat.reduceLeDiff, Nat.reduceMul, Nat.reduceSub, n_0, n_1, n_2, n_3, n_4, n_5, n_6, n_7, n_8, n_9, n_10, n_12, n_40, n_48, n_57, n_59, n_72, n_99, n_102, n_103, n_107, n_108, n_192, n_255, n_256, n_999, n_1000, n_104, nI_add, pk_mul, n_cl, n_inT, n_le, n_lt, n_eq, n_m1, n_m1', n_lem1, n_m1le, n_ltm1, n_m1lt, n_lepred, n_shl, fa_or]
  exact hZ
def sp_V_temperAt (a : Ab) : ra_Sp := ra_f1 1 (fun x σ Z => rc_T a σ ∧ vp_in x (a 0 0) ∧ (ab_temp (a 1 x.toNatClampNeg) < 4 → Z (some (.int (nI (ab_temp (a 1 x.toNatClampNeg))))) σ) ∧ (¬ ab_temp (a 1 x.toNatClampNeg) < 4 → Z (some (.int (-1))) σ))
theorem q_V_temperAt {a : Ab} {oo : Nat} {x : Int32} {σ : ra_St} {Z : ra_R} : sp_V_temperAt a [.ref oo, .int x] σ Z = (oo = 1 ∧ (rc_T a σ ∧ vp_in x (a 0 0) ∧ (ab_temp (a 1 x.toNatClampNeg) < 4 → Z (some (.int (nI (ab_temp (a 1 x.toNatClampNeg))))) σ) ∧ (¬ ab_temp (a 1 x.toNatClampNeg) < 4 → Z (some (.int (-1))) σ))) := rfl
def sp_V_fitsInHouse (a : Ab) : ra_Sp := ra_f1 1 (fun x σ Z => rc_T a σ ∧ vp_in x (a 0 0) ∧ ra_bz (ab_fit a x.toNatClampNeg = true) Z σ)
theorem q_V_fitsInHouse {a : Ab} {oo : Nat} {x : Int32} {σ : ra_St} {Z : ra_R} : sp_V_fitsInHouse a [.ref oo, .int x] σ Z = (oo = 1 ∧ (rc_T a σ ∧ vp_in x (a 0 0) ∧ ra_bz (ab_fit a x.toNatClampNeg = true) Z σ)) := rfl
theorem n_mod4 {x : Nat} (h : x < 2147483648) : nI x - nI x / nI 4 * nI 4 = nI (x % 4) := pk_rem (by omega) (by decide) (by decide)
theorem k_V_fitsInHouse {l : Launch} {X : ra_X} {a : Ab} (hW : ab_W a) (kT : ra_MOK l X mi_V_temperAt (sp_V_temperAt a)) : ra_MOK l X mi_V_fitsInHouse (sp_V_fitsInHouse a) := by
  refine g_V_fitsInHouse kT k_T_isFigureAt (sp_V_fitsInHouse a) ?_
  intro as σ Z _ _ h
  obtain ⟨x, rfl, hT, hx, hZ⟩ := x_f1 h
  have w := hW.1
  obtain ⟨x, hx2, rfl⟩ := vp_in_of hx (by omega)
  rw [n_cl (by omega)] at hZ
  have e := hT.2.2.2.2.1 x hx2
  have b1 := hW.2.2.1 x
  unfold ab_fit at hZ
  simp (disch := omega) only [b_V_fitsInHouse_62, b_V_fitsInHouse_61, b_V_fitsInHouse_60, b_V_fitsInHouse_56, b_V_fitsInHouse_42, b_V_fitsInHouse_41, b_V_fitsInHouse_40, b_V_fitsInHouse_36, b_V_fitsInHouse_28, b_V_fitsInHouse_0, e_al0, e_il1, e_c, e_dv, e_b1, e_b2, e_gr, e_ald, e_zr, e_sw, e_go0, e_go1, List.map_cons, List.map_nil, e_cv2, e_hd, e_c10, e_c1i, e_c1r, e_sh0, e_sh1, e_sh2, e_sh3, e_sh4, e_tls, e_tln, e_tl0, e_tl1, cl_1, cl_2, cl_3, ln_3, cl_4, cl_5, ln_5, tg_1_0, tg_2_0, tg_4_0, q_V_temperAt, q_T_isFigureAt, Nat.reduceAdd, true_and, and_true, true_implies, not_true_eq_false, false_implies, not_false_eq_true, imp_self, forall_const, List.append_nil, ra_I, ra_J, ra_pad, true_or, or_true, Nat.reduceEqDiff, ra_bz, eq_self, if_true, if_false, false_and, and_false, Nat.zero_le, List.cons_append, List.nil_append, Nat.reduceLT, Nat.reduceLeDiff, Nat.reduceMul, Nat.reduceSub, n_0, n_1, n_2, n_3, n_4, n_5, n_6, n_7, n_8, n_9, n_10, n_12, n_40, n_48, n_57, n_59, n_72, n_99, n_102, n_103, n_107, n_108, n_192, n_255, n_256, n_999, n_1000, n_104, nI_add, pk_mul, n_cl, n_inT, n_le, n_lt, n_eq, n_m1, n_m1', n_lem1, n_m1le, n_ltm1, n_m1lt, n_lepred, n_shl, fa_or, e, n_mod4]
  refine ⟨fun q => ⟨hT, fun q2 => ⟨fun q3 => ?_, fun q3 => hZ.1 ?_⟩, fun q2 => hZ.2 ?_⟩, fun q => ⟨fun q2 => ⟨fun q3 => hZ.1 ?_, fun q3 => hZ.2 ?_⟩, fun q2 => ⟨fun q3 => hZ.1 ?_, fun q3 => hZ.2 ?_⟩⟩⟩
  · rw [n_lt (by omega) (by omega)] at q3
    omega
  · rw [if_pos q, decide_eq_true_eq]
    exact q2
  · rw [if_pos q, decide_eq_true_eq]
    exact q2
  · rw [if_neg q, if_pos q2, decide_eq_true_eq]
    exact q3
  · rw [if_neg q, if_pos q2, decide_eq_true_eq]
    exact q3
  · rw [if_neg q, if_neg q2, decide_eq_true_eq]
    exact q3
  · rw [if_neg q, if_neg q2, decide_eq_true_eq]
    exact q3
def sp_V_findHousesFault (a : Ab) : ra_Sp := ra_f0 1 (fun σ Z => rc_T a σ ∧ Z (some (.int (ab_hf a))) σ)
theorem q_V_findHousesFault {a : Ab} {oo : Nat} {σ : ra_St} {Z : ra_R} : sp_V_findHousesFault a [.ref oo] σ Z = (oo = 1 ∧ (rc_T a σ ∧ Z (some (.int (ab_hf a))) σ)) := rfl
def I_V_findHousesFault (a : Ab) (Z : ra_R) (as : List Value) (σ0 : ra_St) (t : Nat) (μ : ra_M) : ra_K := fun L S σ => S = [] ∧ σ = σ0 ∧ as = [.ref 1] ∧ ∃ p : Nat, p ≤ a 0 0 ∧ (∀ j, j < p → ab_bad a j = false) ∧ μ = (a 0 0 - p, 0, 0) ∧ L = [.ref 1, .int (nI p)]
theorem k_V_findHousesFault {l : Launch} {X : ra_X} {a : Ab} (hW : ab_W a) (kT : ra_MOK l X mi_V_temperAt (sp_V_temperAt a)) : ra_MOK l X mi_V_findHousesFault (sp_V_findHousesFault a) := by
  have w := hW.1
  refine g_V_findHousesFault (k_V_fitsInHouse hW kT) (sp_V_findHousesFault a) (I_V_findHousesFault a) ?_ ?_
  · intro as σ Z _ _ h
    obtain ⟨rfl, hT, hZ⟩ := x_f0 h
    simp (disch := omega) only [b_V_findHousesFault_71, b_V_findHousesFault_64, b_V_findHousesFault_60, b_V_findHousesFault_47, b_V_findHousesFault_37, b_V_findHousesFault_31, b_V_findHousesFault_29, b_V_findHousesFault_21, b_V_findHousesFault_13, b_V_findHousesFault_2, b_V_findHousesFault_0, e_al0, e_il1, e_is1i, e_is1r, e_is1n, e_inc1i, e_inc1r, e_inc1n, e_c, e_dv, e_b1, e_b2, e_gi, e_gr, e_ir, e_cv2, e_hd, e_c10, e_c1i, e_c1r, e_sh0, e_sh1, e_sh2, e_sh3, e_sh4, e_tls, e_tln, e_tl0, e_tl1, cl_1, cl_2, cl_4, tg_1_0, q_V_fitsInHouse, Nat.reduceAdd, true_and, and_true, true_implies, not_true_eq_false, false_implies, not_false_eq_true, imp_self, forall_const, List.append_nil, ra_I, ra_J, ra_pad, true_or, or_true, Nat.reduceEqDiff, ra_bz, eq_self, if_true, if_false, false_and, and_false, Nat.zero_le, List.cons_append, List.nil_append, Nat.reduceLT, Nat.reduceLeDiff, Nat.reduceMul, Nat.reduceSub, n_0, n_1, n_2, n_3, n_4, n_5, n_6, n_7, n_8, n_9, n_10, n_12, n_40, n_48, n_57, n_59, n_72, n_99, n_102, n_103, n_107, n_108, n_192, n_255, n_256, n_999, n_1000, n_104, nI_add, pk_mul, n_cl, n_inT, n_le, n_lt, n_eq, n_m1, n_m1', n_lem1, n_m1le, n_ltm1, n_m1lt, n_lepred, n_shl, fa_or]
    exact ⟨_, rfl, rfl, rfl, 0, by omega, fun j hj => by omega, rfl, rfl⟩
  · intro as σ0 Z h0 μ L S σ hI
    obtain ⟨rfl, rfl, rfl, p, hp, hg, rfl, rfl⟩ := hI
    obtain ⟨-, hT, hZ⟩ := x_f0 h0
    have e := hT.2.2.1
    have bad : p < a 0 0 → ab_bad a p = true → Z (some (.int (nI p))) σ := by
      intro q1 q2
      rw [(ab_bad_at hg q1 q2).1] at hZ
      exact hZ
    by_cases hlt : p < a 0 0
    · simp (disch := omega) only [b_V_findHousesFault_71, b_V_findHousesFault_64, b_V_findHousesFault_60, b_V_findHousesFault_47, b_V_findHousesFault_31, b_V_findHousesFault_29, b_V_findHousesFault_21, b_V_findHousesFault_13, b_V_findHousesFault_2, b_V_findHousesFault_0, e_al0, e_il1, e_is1i, e_is1r, e_is1n, e_inc1i, e_inc1r, e_inc1n, e_c, e_dv, e_b1, e_b2, e_gi, e_gr, e_ir, e_cv2, e_hd, e_c10, e_c1i, e_c1r, e_sh0, e_sh1, e_sh2, e_sh3, e_sh4, e_tls, e_tln, e_tl0, e_tl1, cl_1, cl_2, cl_4, tg_1_0, q_V_fitsInHouse, Nat.reduceAdd, true_and, and_true, true_implies, not_true_eq_false, false_implies, not_false_eq_true, imp_self, forall_const, List.append_nil, ra_I, ra_J, ra_pad, true_or, or_true, Nat.reduceEqDiff, ra_bz, eq_self, if_true, if_false, false_and, and_false, Nat.zero_le, List.cons_append, List.nil_append, Nat.reduceLT, Nat.reduceLeDiff, Nat.reduceMul, Nat.reduceSub, n_0, n_1, n_2, n_3, n_4, n_5, n_6, n_7, n_8, n_9, n_10, n_12, n_40, n_48, n_57, n_59, n_72, n_99, n_102, n_103, n_107, n_108, n_192, n_255, n_256, n_999, n_1000, n_104, nI_add, pk_mul, n_cl, n_inT, n_le, n_lt, n_eq, n_m1, n_m1', n_lem1, n_m1le, n_ltm1, n_m1lt, n_lepred, n_shl, fa_or, e, pk_div]
      refine ⟨fun q => by omega, fun _ => ⟨fun q => bad hlt ?_, fun q => ⟨hT, fun q2 => ⟨(a 0 0 - (p + 1), 0, 0), lx1 (by omega), rfl, rfl, rfl, p + 1, by omega, fun j hj => ?_, rfl, rfl⟩, fun q2 => bad hlt ?_⟩⟩⟩
      · unfold ab_bad
        rw [decide_eq_true q]
        rfl
      · rcases (show j < p ∨ j = p by omega) with z | rfl
        · exact hg j z
        · unfold ab_bad
          rw [decide_eq_false q, q2]
          rfl
      · unfold ab_bad
        rw [ts_nt' q2]
        simp
    · have hpe : p = a 0 0 := by omega
      subst hpe
      simp (disch := omega) only [b_V_findHousesFault_71, b_V_findHousesFault_64, b_V_findHousesFault_60, b_V_findHousesFault_47, b_V_findHousesFault_37, b_V_findHousesFault_31, b_V_findHousesFault_29, b_V_findHousesFault_21, b_V_findHousesFault_2, b_V_findHousesFault_0, e_al0, e_il1, e_is1i, e_is1r, e_is1n, e_inc1i, e_inc1r, e_inc1n, e_c, e_dv, e_b1, e_b2, e_gi, e_gr, e_ir, e_cv2, e_hd, e_c10, e_c1i, e_c1r, e_sh0, e_sh1, e_sh2, e_sh3, e_sh4, e_tls, e_tln, e_tl0, e_tl1, cl_1, cl_2, cl_4, tg_1_0, q_V_fitsInHouse, Nat.reduceAdd, true_and, and_true, true_implies, not_true_eq_false, false_implies, not_false_eq_true, imp_self, forall_const, List.append_nil, ra_I, ra_J, ra_pad, true_or, or_true, Nat.reduceEqDiff, ra_bz, eq_self, if_true, if_false, false_and, and_false, Nat.zero_le, List.cons_append, List.nil_append, Nat.reduceLT, Nat.reduceLeDiff, Nat.reduceMul, Nat.reduceSub, n_0, n_1, n_2, n_3, n_4, n_5, n_6, n_7, n_8, n_9, n_10, n_12, n_40, n_48, n_57, n_59, n_72, n_99, n_102, n_103, n_107, n_108, n_192, n_255, n_256, n_999, n_1000, n_104, nI_add, pk_mul, n_cl, n_inT, n_le, n_lt, n_eq, n_m1, n_m1', n_lem1, n_m1le, n_ltm1, n_m1lt, n_lepred, n_shl, fa_or, e, n_mod4]
      refine ⟨fun _ => ⟨fun q => ?_, fun q => ⟨fun q2 => ?_, fun q2 => ?_⟩⟩, fun q => by omega⟩
      · rw [(ab_well hg (Or.inl q)).1] at hZ
        exact hZ
      · rw [(ab_well hg (Or.inr q2)).1] at hZ
        exact hZ
      · rw [(ab_short hg q q2).1] at hZ
        exact hZ
theorem ab_hf_hc (a : Ab) (hW : ab_W a) : (ab_hf a = -1 → ab_hc a = (a 0 0 + 1) / 4) ∧ (¬ ab_hf a = -1 → ab_hc a = 0) := by
  have w := hW.1
  have h1 := fa_first_le (ab_bad a) (a 0 0)
  have hj : ab_hj a ≤ a 0 0 := h1
  unfold ab_hf ab_hc
  have no : ∀ n : Nat, n ≤ 40 → ¬ nI n = -1 := by
    intro n hn h
    have h3 : (nI n = -nI 1) = False := n_m1 (by omega)
    exact h3 ▸ h
  constructor
  · intro h
    split at h
    · exact absurd h (no _ (by omega))
    · split at h
      · rw [if_pos (by omega)]
      · exact absurd h (no _ (by omega))
  · intro h
    split at h
    · rw [if_neg (by omega)]
    · split at h
      · exact absurd rfl h
      · rw [if_neg (by omega)]
def rc_H (a : Ab) (σ : ra_St) : Prop := σ 1 8 = nI (ab_hc a) ∧ ∀ h, h < ab_hc a → σ 6 h = nI (ab_tl a h) ∧ σ 7 h = nI (ab_pu a h) ∧ σ 8 h = nI (ab_te a h)
def sp_V_readHouses (a : Ab) : ra_Sp := ra_f0 1 (fun σ Z => rc_T a σ ∧ σ 1 9 = ab_hf a ∧ ∀ σ', rc_H a σ' → ra_fa [1, 6, 7, 8] σ σ' → (∀ j, j ≠ 8 → σ' 1 j = σ 1 j) → Z none σ')
theorem q_V_readHouses {a : Ab} {oo : Nat} {σ : ra_St} {Z : ra_R} : sp_V_readHouses a [.ref oo] σ Z = (oo = 1 ∧ (rc_T a σ ∧ σ 1 9 = ab_hf a ∧ ∀ σ', rc_H a σ' → ra_fa [1, 6, 7, 8] σ σ' → (∀ j, j ≠ 8 → σ' 1 j = σ 1 j) → Z none σ')) := rfl
def I_V_readHouses (a : Ab) (Z : ra_R) (as : List Value) (σ0 : ra_St) (t : Nat) (μ : ra_M) : ra_K := fun L S σ => S = [] ∧ as = [.ref 1] ∧ ∃ h : Nat, h ≤ ab_hc a ∧ rc_T a σ ∧ σ 1 8 = nI (ab_hc a) ∧ (∀ j, j < h → σ 6 j = nI (ab_tl a j) ∧ σ 7 j = nI (ab_pu a j) ∧ σ 8 j = nI (ab_te a j)) ∧ ra_fa [1, 6, 7, 8] σ0 σ ∧ (∀ j, j ≠ 8 → σ 1 j = σ0 1 j) ∧ μ = (ab_hc a - h, 0, 0) ∧ L = [.ref 1, .int (nI h)]
theorem k_V_readHouses {l : Launch} {X : ra_X} {a : Ab} (hW : ab_W a) (kT : ra_MOK l X mi_V_temperAt (sp_V_temperAt a)) : ra_MOK l X mi_V_readHouses (sp_V_readHouses a) := by
  have w := hW.1
  have h8 := ab_hc_8 a
  refine g_V_readHouses (k_T_figureAt (o := 2)) kT (sp_V_readHouses a) (I_V_readHouses a) ?_ ?_
  · intro as σ Z _ _ h
    obtain ⟨rfl, hT, h9, hZ⟩ := x_f0 h
    obtain ⟨c1, c2⟩ := ab_hf_hc a hW
    have go : ∀ n : Nat, n = ab_hc a → ∃ μ, I_V_readHouses a Z [.ref 1] σ 29 μ [.ref 1, .int (nI 0)] [] (ra_sw σ 1 8 (nI n)) := by
      intro n hn
      subst hn
      exact ⟨_, rfl, rfl, 0, by omega, hT.fa (cs := [1]) (ra_fa.rf.sw (by decide)) (by decide), by simp [sw_at], fun j hj => by omega, ra_fa.rf.sw (by decide), fun j hj => by simp [sw_at, hj], rfl, rfl⟩
    simp (disch := omega) only [b_V_readHouses_92, b_V_readHouses_37, b_V_readHouses_29, b_V_readHouses_24, b_V_readHouses_23, b_V_readHouses_9, b_V_readHouses_0, e_al0, e_il1, e_is1i, e_is1r, e_is1n, e_inc1i, e_inc1r, e_inc1n, e_c, e_i2, e_dv, e_b2, e_gi, e_gr, e_pi, e_ast, e_vr, e_cv2, e_hd, e_c10, e_c1i, e_c1r, e_sh0, e_sh1, e_sh2, e_sh3, e_sh4, e_tls, e_tln, e_tl0, e_tl1, cl_1, cl_2, cl_4, cl_6, ln_6, cl_7, ln_7, cl_8, ln_8, tg_1_0, tg_1_2, tg_1_3, tg_1_4, q_T_figureAt, q_V_temperAt, Nat.reduceAdd, true_and, and_true, true_implies, not_true_eq_false, false_implies, not_false_eq_true, imp_self, forall_const, List.append_nil, ra_I, ra_J, ra_pad, true_or, or_true, Nat.reduceEqDiff, ra_bz, eq_self, if_true, if_false, false_and, and_false, Nat.zero_le, List.cons_append, List.nil_append, Nat.reduceLT, Nat.reduceLeDiff, Nat.reduceMul, Nat.reduceSub, n_0, n_1, n_2, n_3, n_4, n_5, n_6, n_7, n_8, n_9, n_10, n_12, n_40, n_48, n_57, n_59, n_72, n_99, n_102, n_103, n_107, n_108, n_192, n_255, n_256, n_999, n_1000, n_104, nI_add, pk_mul, n_cl, n_inT, n_le, n_lt, n_eq, n_m1, n_m1', n_lem1, n_m1le, n_ltm1, n_m1lt, n_lepred, n_shl, fa_or, h9, hT.2.2.1, pk_div]
    exact ⟨fun q => go _ (c1 q).symm, fun q => go 0 (c2 q).symm⟩
  · intro as σ0 Z h0 μ L S σ hI
    obtain ⟨rfl, rfl, h, hh, hT, h1, hq, hf, hs, rfl, rfl⟩ := hI
    obtain ⟨-, hT0, h9, hZ⟩ := x_f0 h0
    by_cases hlt : h < ab_hc a
    · obtain ⟨p1, p2⟩ := ab_hc_bad (p := 4 * h + 2) hlt (by omega)
      have t9 := ab_tl_9 hlt
      have u9 := ab_pu_9 hlt
      have v3 := ab_te_3 hlt
      have e1 := hT.2.2.2.2.1 (4 * h) (by omega)
      have e2 := hT.2.2.2.2.1 (4 * h + 1) (by omega)
      have d1 : nI (ab_tl a h + 48) - nI 48 = nI (ab_tl a h) := by rw [n_sub (by omega), Nat.add_sub_cancel]
      have d2 : nI (ab_pu a h + 48) - nI 48 = nI (ab_pu a h) := by rw [n_sub (by omega), Nat.add_sub_cancel]
      rw [t9.2] at e1
      rw [u9.2] at e2
      have e3 : ab_temp (a 1 (4 * h + 2)) = ab_te a h := rfl
      simp (disch := omega) only [b_V_readHouses_37, b_V_readHouses_29, b_V_readHouses_24, b_V_readHouses_23, b_V_readHouses_9, b_V_readHouses_0, e_al0, e_il1, e_is1i, e_is1r, e_is1n, e_inc1i, e_inc1r, e_inc1n, e_c, e_i2, e_dv, e_b2, e_gi, e_gr, e_pi, e_ast, e_vr, e_cv2, e_hd, e_c10, e_c1i, e_c1r, e_sh0, e_sh1, e_sh2, e_sh3, e_sh4, e_tls, e_tln, e_tl0, e_tl1, cl_1, cl_2, cl_4, cl_6, ln_6, cl_7, ln_7, cl_8, ln_8, tg_1_0, tg_1_2, tg_1_3, tg_1_4, q_T_figureAt, q_V_temperAt, Nat.reduceAdd, true_and, and_true, true_implies, not_true_eq_false, false_implies, not_false_eq_true, imp_self, forall_const, List.append_nil, ra_I, ra_J, ra_pad, true_or, or_true, Nat.reduceEqDiff, ra_bz, eq_self, if_true, if_false, false_and, and_false, Nat.zero_le, List.cons_append, List.nil_append, Nat.reduceLT, Nat.reduceLeDiff, Nat.reduceMul, Nat.reduceSub, n_0, n_1, n_2, n_3, n_4, n_5, n_6, n_7, n_8, n_9, n_10, n_12, n_40, n_48, n_57, n_59, n_72, n_99, n_102, n_103, n_107, n_108, n_192, n_255, n_256, n_999, n_1000, n_104, nI_add, pk_mul, n_cl, n_inT, n_le, n_lt, n_eq, n_m1, n_m1', n_lem1, n_m1le, n_ltm1, n_m1lt, n_lepred, n_shl, fa_or, h1, sw_at, e1, e2, e3, d1, d2]
      have f2 : ra_fa [6, 7, 8] σ (ra_sw (ra_sw σ 6 h (nI (ab_tl a h))) 7 h (nI (ab_pu a h))) := (ra_fa.rf.sw (by decide)).sw (by decide)
      have f3 : ra_fa [6, 7, 8] σ (ra_sw (ra_sw (ra_sw σ 6 h (nI (ab_tl a h))) 7 h (nI (ab_pu a h))) 8 h (nI (ab_te a h))) := f2.sw (by decide)
      refine ⟨fun q => by omega, fun _ => ⟨hT.fa f2 (by decide), fun _ => ⟨(ab_hc a - (h + 1), 0, 0), lx1 (by omega), rfl, rfl, h + 1, by omega, hT.fa f3 (by decide), ?_, fun j hj => ?_, hf.tr f3 (by decide), fun j hj => ?_, rfl, rfl⟩, fun q => by omega⟩⟩
      · simpa [sw_at] using h1
      · by_cases e : j = h
        · subst e; simp [sw_at]
        · simpa [sw_at, e] using hq j (by omega)
      · simpa [sw_at] using hs j hj
    · simp (disch := omega) only [b_V_readHouses_92, b_V_readHouses_29, b_V_readHouses_24, b_V_readHouses_23, b_V_readHouses_9, b_V_readHouses_0, e_al0, e_il1, e_is1i, e_is1r, e_is1n, e_inc1i, e_inc1r, e_inc1n, e_c, e_i2, e_dv, e_b2, e_gi, e_gr, e_pi, e_ast, e_vr, e_cv2, e_hd, e_c10, e_c1i, e_c1r, e_sh0, e_sh1, e_sh2, e_sh3, e_sh4, e_tls, e_tln, e_tl0, e_tl1, cl_1, cl_2, cl_4, cl_6, ln_6, cl_7, ln_7, cl_8, ln_8, tg_1_0, tg_1_2, tg_1_3, tg_1_4, q_T_figureAt, q_V_temperAt, Nat.reduceAdd, true_and, and_true, true_implies, not_true_eq_false, false_implies, not_false_eq_true, imp_self, forall_const, List.append_nil, ra_I, ra_J, ra_pad, true_or, or_true, Nat.reduceEqDiff, ra_bz, eq_self, if_true, if_false, false_and, and_false, Nat.zero_le, List.cons_append, List.nil_append, Nat.reduceLT, Nat.reduceLeDiff, Nat.reduceMul, Nat.reduceSub, n_0, n_1, n_2, n_3, n_4, n_5, n_6, n_7, n_8, n_9, n_10, n_12, n_40, n_48, n_57, n_59, n_72, n_99, n_102, n_103, n_107, n_108, n_192, n_255, n_256, n_999, n_1000, n_104, nI_add, pk_mul, n_cl, n_inT, n_le, n_lt, n_eq, n_m1, n_m1', n_lem1, n_m1le, n_ltm1, n_m1lt, n_lepred, n_shl, fa_or, h1]
      exact ⟨fun _ => hZ σ ⟨h1, fun j hj => hq j (by omega)⟩ hf hs, fun q => by omega⟩
def sp_V_findLotsFault (a : Ab) : ra_Sp := ra_f0 1 (fun σ Z => rc_T a σ ∧ σ 1 8 = nI (ab_hc a) ∧ Z (some (.int (ab_lf a))) σ)
theorem q_V_findLotsFault {a : Ab} {oo : Nat} {σ : ra_St} {Z : ra_R} : sp_V_findLotsFault a [.ref oo] σ Z = (oo = 1 ∧ (rc_T a σ ∧ σ 1 8 = nI (ab_hc a) ∧ Z (some (.int (ab_lf a))) σ)) := rfl
def I_V_findLotsFault (a : Ab) (Z : ra_R) (as : List Value) (σ0 : ra_St) (t : Nat) (μ : ra_M) : ra_K := fun L S σ => S = [] ∧ σ = σ0 ∧ as = [.ref 1] ∧ ∃ (k : Nat) (v : Value), k ≤ a 0 1 ∧ (∀ j, j < k → ab_lbad a j = false) ∧ μ = (11 - k, 0, 0) ∧ L = [.ref 1, .int (nI (ab_tb a k)), .int (nI k), v]
theorem n_sub48 {x : Nat} (h : x < 256) (h2 : x < 48) : ¬ (0 ≤ nI x - nI 48) := by
  rw [fa_le, pk_sub_toInt (by omega) (by omega)]
  have : (0 : Int32).toInt = 0 := by decide
  omega
theorem k_V_findLotsFault {l : Launch} {X : ra_X} {a : Ab} (hW : ab_W a) : ra_MOK l X mi_V_findLotsFault (sp_V_findLotsFault a) := by
  have w := hW.2.1
  have h8 := ab_hc_8 a
  refine g_V_findLotsFault (k_T_figureAt (o := 4)) k_R_isOutside k_R_has (sp_V_findLotsFault a) (I_V_findLotsFault a) ?_ ?_
  · intro as σ Z _ _ h
    obtain ⟨rfl, hT, h1, hZ⟩ := x_f0 h
    simp (disch := omega) only [b_V_findLotsFault_93, b_V_findLotsFault_92, b_V_findLotsFault_82, b_V_findLotsFault_68, b_V_findLotsFault_56, b_V_findLotsFault_54, b_V_findLotsFault_46, b_V_findLotsFault_32, b_V_findLotsFault_15, b_V_findLotsFault_4, b_V_findLotsFault_0, e_al0, e_il1, e_il3, e_il2, e_is1i, e_is1r, e_is1n, e_is3i, e_is3r, e_is3n, e_is2i, e_is2r, e_is2n, e_inc2i, e_inc2r, e_inc2n, e_c, e_i2, e_b1, e_b2, e_gi, e_gr, e_ir, e_cs2, e_cs3, e_cv2, e_hd, e_c10, e_c1i, e_c1r, e_sh0, e_sh1, e_sh2, e_sh3, e_sh4, e_tls, e_tln, e_tl0, e_tl1, cl_1, cl_2, cl_4, tg_1_1, q_T_figureAt, q_R_isOutside, q_R_has, Nat.reduceAdd, true_and, and_true, true_implies, not_true_eq_false, false_implies, not_false_eq_true, imp_self, forall_const, List.append_nil, ra_I, ra_J, ra_pad, true_or, or_true, Nat.reduceEqDiff, ra_bz, eq_self, if_true, if_false, false_and, and_false, Nat.zero_le, List.cons_append, List.nil_append, Nat.reduceLT, Nat.reduceLeDiff, Nat.reduceMul, Nat.reduceSub, n_0, n_1, n_2, n_3, n_4, n_5, n_6, n_7, n_8, n_9, n_10, n_12, n_40, n_48, n_57, n_59, n_72, n_99, n_102, n_103, n_107, n_108, n_192, n_255, n_256, n_999, n_1000, n_104, nI_add, pk_mul, n_cl, n_inT, n_le, n_lt, n_eq, n_m1, n_m1', n_lem1, n_m1le, n_ltm1, n_m1lt, n_lepred, n_shl, fa_or]
    exact ⟨_, rfl, rfl, rfl, 0, _, by omega, fun j hj => by omega, rfl, rfl⟩
  · intro as σ0 Z h0 μ L S σ hI
    obtain ⟨rfl, rfl, rfl, k, v, hk, hg, rfl, rfl⟩ := hI
    obtain ⟨-, hT, h1, hZ⟩ := x_f0 h0
    have htb := ab_tb_lt k hg
    have bad : k < a 0 1 → ab_lbad a k = true → Z (some (.int (nI k))) σ := by
      intro q1 q2
      have e : ab_lj a = k := fa_first_eq hg q1 q2
      unfold ab_lf at hZ
      rw [e, if_pos q1] at hZ
      exact hZ
    by_cases hlt : k < a 0 1
    · have e := hT.2.2.2.2.2 k hlt
      have hb := hW.2.2.2.1 k
      by_cases h48 : 48 ≤ a 2 k
      · have d : nI (a 2 k) - nI 48 = nI (a 2 k - 48) := n_sub h48
        simp (disch := omega) only [b_V_findLotsFault_93, b_V_findLotsFault_92, b_V_findLotsFault_82, b_V_findLotsFault_56, b_V_findLotsFault_54, b_V_findLotsFault_46, b_V_findLotsFault_32, b_V_findLotsFault_15, b_V_findLotsFault_4, b_V_findLotsFault_0, e_al0, e_il1, e_il3, e_il2, e_is1i, e_is1r, e_is1n, e_is3i, e_is3r, e_is3n, e_is2i, e_is2r, e_is2n, e_inc2i, e_inc2r, e_inc2n, e_c, e_i2, e_b1, e_b2, e_gi, e_gr, e_ir, e_cs2, e_cs3, e_cv2, e_hd, e_c10, e_c1i, e_c1r, e_sh0, e_sh1, e_sh2, e_sh3, e_sh4, e_tls, e_tln, e_tl0, e_tl1, cl_1, cl_2, cl_4, tg_1_1, q_T_figureAt, q_R_isOutside, q_R_has, Nat.reduceAdd, true_and, and_true, true_implies, not_true_eq_false, false_implies, not_false_eq_true, imp_self, forall_const, List.append_nil, ra_I, ra_J, ra_pad, true_or, or_true, Nat.reduceEqDiff, ra_bz, eq_self, if_true, if_false, false_and, and_false, Nat.zero_le, List.cons_append, List.nil_append, Nat.reduceLT, Nat.reduceLeDiff, Nat.reduceMul, Nat.reduceSub, n_0, n_1, n_2, n_3, n_4, n_5, n_6, n_7, n_8, n_9, n_10, n_12, n_40, n_48, n_57, n_59, n_72, n_99, n_102, n_103, n_107, n_108, n_192, n_255, n_256, n_999, n_1000, n_104, nI_add, pk_mul, n_cl, n_inT, n_le, n_lt, n_eq, n_m1, n_m1', n_lem1, n_m1le, n_ltm1, n_m1lt, n_lepred, n_shl, fa_or, hT.2.2.2.1, h1, e, d]
        refine ⟨fun q => by omega, fun _ => ⟨fun q => bad hlt ?_, fun q => ⟨fun q2 => bad hlt ?_, fun q2 => ⟨vi (by omega) (by decide), fun q3 => bad hlt ?_, fun q3 => ?_⟩⟩⟩⟩
        · unfold ab_lbad
          rw [decide_eq_true q]
          simp
        · unfold ab_lbad
          rw [decide_eq_false (by omega : ¬ (48 ≤ a 2 k ∧ a 2 k - 48 < ab_hc a))]
          rfl
        · unfold ab_lbad
          rw [q3]
          simp
        · rw [n_shl (by omega), fa_or]
          refine ⟨(11 - (k + 1), 0, 0), lx1 (by omega), rfl, rfl, rfl, k + 1, _, by omega, fun j hj => ?_, rfl, rfl⟩
          rcases (show j < k ∨ j = k by omega) with z | rfl
          · exact hg j z
          · unfold ab_lbad
            rw [ts_nt' q3, decide_eq_true (⟨h48, by omega⟩ : 48 ≤ a 2 j ∧ a 2 j - 48 < ab_hc a), decide_eq_false q]
            rfl
      · have d := n_sub48 hb (by omega)
        simp (disch := omega) only [b_V_findLotsFault_93, b_V_findLotsFault_92, b_V_findLotsFault_82, b_V_findLotsFault_56, b_V_findLotsFault_54, b_V_findLotsFault_32, b_V_findLotsFault_15, b_V_findLotsFault_4, b_V_findLotsFault_0, e_al0, e_il1, e_il3, e_il2, e_is1i, e_is1r, e_is1n, e_is3i, e_is3r, e_is3n, e_is2i, e_is2r, e_is2n, e_inc2i, e_inc2r, e_inc2n, e_c, e_i2, e_b1, e_b2, e_gi, e_gr, e_ir, e_cs2, e_cs3, e_cv2, e_hd, e_c10, e_c1i, e_c1r, e_sh0, e_sh1, e_sh2, e_sh3, e_sh4, e_tls, e_tln, e_tl0, e_tl1, cl_1, cl_2, cl_4, tg_1_1, q_T_figureAt, q_R_isOutside, q_R_has, Nat.reduceAdd, true_and, and_true, true_implies, not_true_eq_false, false_implies, not_false_eq_true, imp_self, forall_const, List.append_nil, ra_I, ra_J, ra_pad, true_or, or_true, Nat.reduceEqDiff, ra_bz, eq_self, if_true, if_false, false_and, and_false, Nat.zero_le, List.cons_append, List.nil_append, Nat.reduceLT, Nat.reduceLeDiff, Nat.reduceMul, Nat.reduceSub, n_0, n_1, n_2, n_3, n_4, n_5, n_6, n_7, n_8, n_9, n_10, n_12, n_40, n_48, n_57, n_59, n_72, n_99, n_102, n_103, n_107, n_108, n_192, n_255, n_256, n_999, n_1000, n_104, nI_add, pk_mul, n_cl, n_inT, n_le, n_lt, n_eq, n_m1, n_m1', n_lem1, n_m1le, n_ltm1, n_m1lt, n_lepred, n_shl, fa_or, hT.2.2.2.1, h1, e]
        have b2 : Z (some (.int (nI k))) σ := bad hlt (by
          unfold ab_lbad
          rw [decide_eq_false (by omega : ¬ (48 ≤ a 2 k ∧ a 2 k - 48 < ab_hc a))]
          rfl)
        exact ⟨fun q => by omega, fun _ => ⟨fun _ => b2, fun _ => ⟨fun _ => b2, fun q => absurd (fun z => d z.1) q⟩⟩⟩
    · simp (disch := omega) only [b_V_findLotsFault_93, b_V_findLotsFault_92, b_V_findLotsFault_82, b_V_findLotsFault_68, b_V_findLotsFault_56, b_V_findLotsFault_54, b_V_findLotsFault_46, b_V_findLotsFault_32, b_V_findLotsFault_4, b_V_findLotsFault_0, e_al0, e_il1, e_il3, e_il2, e_is1i, e_is1r, e_is1n, e_is3i, e_is3r, e_is3n, e_is2i, e_is2r, e_is2n, e_inc2i, e_inc2r, e_inc2n, e_c, e_i2, e_b1, e_b2, e_gi, e_gr, e_ir, e_cs2, e_cs3, e_cv2, e_hd, e_c10, e_c1i, e_c1r, e_sh0, e_sh1, e_sh2, e_sh3, e_sh4, e_tls, e_tln, e_tl0, e_tl1, cl_1, cl_2, cl_4, tg_1_1, q_T_figureAt, q_R_isOutside, q_R_has, Nat.reduceAdd, true_and, and_true, true_implies, not_true_eq_false, false_implies, not_false_eq_true, imp_self, forall_const, List.append_nil, ra_I, ra_J, ra_pad, true_or, or_true, Nat.reduceEqDiff, ra_bz, eq_self, if_true, if_false, false_and, and_false, Nat.zero_le, List.cons_append, List.nil_append, Nat.reduceLT, Nat.reduceLeDiff, Nat.reduceMul, Nat.reduceSub, n_0, n_1, n_2, n_3, n_4, n_5, n_6, n_7, n_8, n_9, n_10, n_12, n_40, n_48, n_57, n_59, n_72, n_99, n_102, n_103, n_107, n_108, n_192, n_255, n_256, n_999, n_1000, n_104, nI_add, pk_mul, n_cl, n_inT, n_le, n_lt, n_eq, n_m1, n_m1', n_lem1, n_m1le, n_ltm1, n_m1lt, n_lepred, n_shl, fa_or, hT.2.2.2.1, h1]
      have lj : ab_lj a = a 0 1 := fa_first_all (fun j hj => hg j (by omega))
      unfold ab_lf at hZ
      rw [lj, if_neg (by omega)] at hZ
      refine ⟨fun _ => ⟨fun q => ?_, fun q => ?_⟩, fun q => by omega⟩
      · rw [if_neg (by omega)] at hZ
        exact hZ
      · rw [if_pos (by omega)] at hZ
        exact hZ
def sp_V_readLots (a : Ab) : ra_Sp := ra_f0 1 (fun σ Z => rc_T a σ ∧ σ 1 8 = nI (ab_hc a) ∧ σ 1 10 = ab_lf a ∧ ∀ σ', (∀ h, h < ab_hc a → σ' 9 h = nI (ab_ow a h) ∧ σ' 10 h = nI (ab_on a h)) → ra_fa [9, 10] σ σ' → Z none σ')
theorem q_V_readLots {a : Ab} {oo : Nat} {σ : ra_St} {Z : ra_R} : sp_V_readLots a [.ref oo] σ Z = (oo = 1 ∧ (rc_T a σ ∧ σ 1 8 = nI (ab_hc a) ∧ σ 1 10 = ab_lf a ∧ ∀ σ', (∀ h, h < ab_hc a → σ' 9 h = nI (ab_ow a h) ∧ σ' 10 h = nI (ab_on a h)) → ra_fa [9, 10] σ σ' → Z none σ')) := rfl
def I_V_readLots (a : Ab) (Z : ra_R) (as : List Value) (σ0 : ra_St) (t : Nat) (μ : ra_M) : ra_K := fun L S σ => S = [] ∧ as = [.ref 1] ∧ ∃ (h : Nat) (v : Value), h ≤ ab_hc a ∧ (∀ j, j < h → σ 9 j = nI (ab_ow a j) ∧ σ 10 (ab_ow a j) = nI j) ∧ ra_fa [9, 10] σ0 σ ∧ μ = (ab_hc a - h, 0, 0) ∧ L = [.ref 1, .int (nI h), v]
theorem k_V_readLots {l : Launch} {X : ra_X} {a : Ab} (hW : ab_W a) : ra_MOK l X mi_V_readLots (sp_V_readLots a) := by
  have w := hW.2.1
  have h8 := ab_hc_8 a
  refine g_V_readLots (k_T_figureAt (o := 4)) (sp_V_readLots a) (I_V_readLots a) ?_ ?_
  · intro as σ Z _ _ h
    obtain ⟨rfl, hT, h1, h2, hZ⟩ := x_f0 h
    simp (disch := omega) only [b_V_readLots_72, b_V_readLots_53, b_V_readLots_52, b_V_readLots_41, b_V_readLots_27, b_V_readLots_26, b_V_readLots_20, b_V_readLots_10, b_V_readLots_2, b_V_readLots_0, e_al0, e_il1, e_il2, e_is2i, e_is2r, e_is2n, e_is1i, e_is1r, e_is1n, e_inc1i, e_inc1r, e_inc1n, e_c, e_i2, e_b2, e_gi, e_gr, e_ald, e_ast, e_vr, e_cv2, e_hd, e_c10, e_c1i, e_c1r, e_sh0, e_sh1, e_sh2, e_sh3, e_sh4, e_tls, e_tln, e_tl0, e_tl1, cl_1, cl_2, cl_4, cl_9, ln_9, cl_10, ln_10, tg_1_1, tg_1_5, tg_1_6, q_T_figureAt, Nat.reduceAdd, true_and, and_true, true_implies, not_true_eq_false, false_implies, not_false_eq_true, imp_self, forall_const, List.append_nil, ra_I, ra_J, ra_pad, true_or, or_true, Nat.reduceEqDiff, ra_bz, eq_self, if_true, if_false, false_and, and_false, Nat.zero_le, List.cons_append, List.nil_append, Nat.reduceLT, Nat.reduceLeDiff, Nat.reduceMul, Nat.reduceSub, n_0, n_1, n_2, n_3, n_4, n_5, n_6, n_7, n_8, n_9, n_10, n_12, n_40, n_48, n_57, n_59, n_72, n_99, n_102, n_103, n_107, n_108, n_192, n_255, n_256, n_999, n_1000, n_104, nI_add, pk_mul, n_cl, n_inT, n_le, n_lt, n_eq, n_m1, n_m1', n_lem1, n_m1le, n_ltm1, n_m1lt, n_lepred, n_shl, fa_or]
    exact ⟨_, rfl, rfl, 0, _, by omega, fun j hj => by omega, ra_fa.rf, rfl, rfl⟩
  · intro as σ0 Z h0 μ L S σ hI
    obtain ⟨rfl, rfl, h, v, hh, hq, hf, rfl, rfl⟩ := hI
    obtain ⟨-, hT0, h1, h2, hZ⟩ := x_f0 h0
    have hT := hT0.fa hf (by decide)
    rw [← hf 1 (by decide)] at h1 h2
    by_cases hlt : h < ab_hc a
    · have how := ab_ow_lt hlt
      have go : ∀ u : Value, ∃ μ', ra_lx μ' (ab_hc a - h, 0, 0) ∧ I_V_readLots a Z [.ref 1] σ0 2 μ' [.ref 1, .int (nI (h + 1)), u] [] (ra_sw (ra_sw σ 9 h (nI (ab_ow a h))) 10 (ab_ow a h) (nI h)) := by
        intro u
        refine ⟨(ab_hc a - (h + 1), 0, 0), lx1 (by omega), rfl, rfl, h + 1, u, by omega, fun j hj => ?_, (hf.sw (by decide)).sw (by decide), rfl, rfl⟩
        by_cases e : j = h
        · subst e; simp [sw_at]
        · have e2 : ¬ ab_ow a j = ab_ow a h := fun z => e (ab_ow_inj (by omega) hlt z)
          simpa [sw_at, e, e2] using hq j (by omega)
      by_cases hok : ab_lok a
      · have e1 := (ab_lok_lf a hW).mp hok
        obtain ⟨k1, k2⟩ := ab_lok_n hok
        have e2 : ab_ow a h = a 2 h - 48 := by
          unfold ab_ow
          exact if_pos hok
        have e3 := (ab_lgood (k2 h hlt)).1
        have e4 := hT.2.2.2.2.2 h (by omega)
        have hb := hW.2.2.2.1 h
        have d : nI (a 2 h) - nI 48 = nI (ab_ow a h) := by rw [n_sub e3, e2]
        rw [e1] at h2
        simp (disch := omega) only [b_V_readLots_53, b_V_readLots_52, b_V_readLots_41, b_V_readLots_27, b_V_readLots_26, b_V_readLots_20, b_V_readLots_10, b_V_readLots_2, b_V_readLots_0, e_al0, e_il1, e_il2, e_is2i, e_is2r, e_is2n, e_is1i, e_is1r, e_is1n, e_inc1i, e_inc1r, e_inc1n, e_c, e_i2, e_b2, e_gi, e_gr, e_ald, e_ast, e_vr, e_cv2, e_hd, e_c10, e_c1i, e_c1r, e_sh0, e_sh1, e_sh2, e_sh3, e_sh4, e_tls, e_tln, e_tl0, e_tl1, cl_1, cl_2, cl_4, cl_9, ln_9, cl_10, ln_10, tg_1_1, tg_1_5, tg_1_6, q_T_figureAt, Nat.reduceAdd, true_and, and_true, true_implies, not_true_eq_false, false_implies, not_false_eq_true, imp_self, forall_const, List.append_nil, ra_I, ra_J, ra_pad, true_or, or_true, Nat.reduceEqDiff, ra_bz, eq_self, if_true, if_false, false_and, and_false, Nat.zero_le, List.cons_append, List.nil_append, Nat.reduceLT, Nat.reduceLeDiff, Nat.reduceMul, Nat.reduceSub, n_0, n_1, n_2, n_3, n_4, n_5, n_6, n_7, n_8, n_9, n_10, n_12, n_40, n_48, n_57, n_59, n_72, n_99, n_102, n_103, n_107, n_108, n_192, n_255, n_256, n_999, n_1000, n_104, nI_add, pk_mul, n_cl, n_inT, n_le, n_lt, n_eq, n_m1, n_m1', n_lem1, n_m1le, n_ltm1, n_m1lt, n_lepred, n_shl, fa_or, h1, h2, e4, d, sw_at]
        exact ⟨fun q => by omega, fun _ => ⟨fun _ => go _, fun _ => go _⟩⟩
      · have e1 : ¬ ab_lf a = -nI 1 := fun z => hok ((ab_lok_lf a hW).mpr z)
        have e2 : ab_ow a h = if h + 1 < ab_hc a then h + 1 else 0 := by
          unfold ab_ow
          exact if_neg hok
        simp (disch := omega) only [b_V_readLots_53, b_V_readLots_52, b_V_readLots_41, b_V_readLots_27, b_V_readLots_26, b_V_readLots_20, b_V_readLots_10, b_V_readLots_2, b_V_readLots_0, e_al0, e_il1, e_il2, e_is2i, e_is2r, e_is2n, e_is1i, e_is1r, e_is1n, e_inc1i, e_inc1r, e_inc1n, e_c, e_i2, e_b2, e_gi, e_gr, e_ald, e_ast, e_vr, e_cv2, e_hd, e_c10, e_c1i, e_c1r, e_sh0, e_sh1, e_sh2, e_sh3, e_sh4, e_tls, e_tln, e_tl0, e_tl1, cl_1, cl_2, cl_4, cl_9, ln_9, cl_10, ln_10, tg_1_1, tg_1_5, tg_1_6, q_T_figureAt, Nat.reduceAdd, true_and, and_true, true_implies, not_true_eq_false, false_implies, not_false_eq_true, imp_self, forall_const, List.append_nil, ra_I, ra_J, ra_pad, true_or, or_true, Nat.reduceEqDiff, ra_bz, eq_self, if_true, if_false, false_and, and_false, Nat.zero_le, List.cons_append, List.nil_append, Nat.reduceLT, Nat.reduceLeDiff, Nat.reduceMul, Nat.reduceSub, n_0, n_1, n_2, n_3, n_4, n_5, n_6, n_7, n_8, n_9, n_10, n_12, n_40, n_48, n_57, n_59, n_72, n_99, n_102, n_103, n_107, n_108, n_192, n_255, n_256, n_999, n_1000, n_104, nI_add, pk_mul, n_cl, n_inT, n_le, n_lt, n_eq, n_m1, n_m1', n_lem1, n_m1le, n_ltm1, n_m1lt, n_lepred, n_shl, fa_or, h1, h2, e1, sw_at]
        refine ⟨fun q => by omega, fun _ => ⟨fun q => ?_, fun q => ⟨vi (by omega) (by decide), ?_⟩⟩⟩
        · rw [if_neg (by omega)] at e2
          rw [e2] at go
          exact go _
        · rw [if_pos (by omega)] at e2
          rw [e2] at go
          exact go _
    · simp (disch := omega) only [b_V_readLots_72, b_V_readLots_53, b_V_readLots_52, b_V_readLots_41, b_V_readLots_27, b_V_readLots_26, b_V_readLots_20, b_V_readLots_2, b_V_readLots_0, e_al0, e_il1, e_il2, e_is2i, e_is2r, e_is2n, e_is1i, e_is1r, e_is1n, e_inc1i, e_inc1r, e_inc1n, e_c, e_i2, e_b2, e_gi, e_gr, e_ald, e_ast, e_vr, e_cv2, e_hd, e_c10, e_c1i, e_c1r, e_sh0, e_sh1, e_sh2, e_sh3, e_sh4, e_tls, e_tln, e_tl0, e_tl1, cl_1, cl_2, cl_4, cl_9, ln_9, cl_10, ln_10, tg_1_1, tg_1_5, tg_1_6, q_T_figureAt, Nat.reduceAdd, true_and, and_true, true_implies, not_true_eq_false, false_implies, not_false_eq_true, imp_self, forall_const, List.append_nil, ra_I, ra_J, ra_pad, true_or, or_true, Nat.reduceEqDiff, ra_bz, eq_self, if_true, if_false, false_and, and_false, Nat.zero_le, List.cons_append, List.nil_append, Nat.reduceLT, Nat.reduceLeDiff, Nat.reduceMul, Nat.reduceSub, n_0, n_1, n_2, n_3, n_4, n_5, n_6, n_7, n_8, n_9, n_10, n_12, n_40, n_48, n_57, n_59, n_72, n_99, n_102, n_103, n_107, n_108, n_192, n_255, n_256, n_999, n_1000, n_104, nI_add, pk_mul, n_cl, n_inT, n_le, n_lt, n_eq, n_m1, n_m1', n_lem1, n_m1le, n_ltm1, n_m1lt, n_lepred, n_shl, fa_or, h1]
      refine ⟨fun _ => hZ σ (fun j hj => ⟨(hq j (by omega)).1, ?_⟩) hf, fun q => by omega⟩
      obtain ⟨k1, k2⟩ := ab_on_spec hj
      have := (hq (ab_on a j) (by omega)).2
      rw [k2] at this
      exact this
def sp_V_readRings (a : Ab) : ra_Sp := ra_f0 1 (fun σ Z => σ 1 8 = nI (ab_hc a) ∧ (∀ h, h < ab_hc a → σ 9 h = nI (ab_ow a h)) ∧ ∀ σ', (∀ h, h < ab_hc a → σ' 11 h = nI (ab_ring a h)) → ra_fa [11] σ σ' → Z none σ')
theorem q_V_readRings {a : Ab} {oo : Nat} {σ : ra_St} {Z : ra_R} : sp_V_readRings a [.ref oo] σ Z = (oo = 1 ∧ (σ 1 8 = nI (ab_hc a) ∧ (∀ h, h < ab_hc a → σ 9 h = nI (ab_ow a h)) ∧ ∀ σ', (∀ h, h < ab_hc a → σ' 11 h = nI (ab_ring a h)) → ra_fa [11] σ σ' → Z none σ')) := rfl
def I_V_readRings (a : Ab) (Z : ra_R) (as : List Value) (σ0 : ra_St) (t : Nat) (μ : ra_M) : ra_K := fun L S σ => S = [] ∧ as = [.ref 1] ∧ ∃ (h s b x : Nat) (u1 u2 u3 : Value), (∀ j, j < h → σ 11 j = nI (ab_ring a j)) ∧ ra_fa [11] σ0 σ ∧
  match t with
  | 2 => h ≤ ab_hc a ∧ μ = (ab_hc a - h, 1, 0) ∧ L = [.ref 1, .int (nI h), u1, u2, u3]
  | _ => h < ab_hc a ∧ s ≤ ab_hc a ∧ b < 256 ∧ x < ab_hc a ∧ ab_ring a h = ab_rg a (ab_hc a - s) b x ∧ μ = (ab_hc a - h, 0, ab_hc a - s) ∧ L = [.ref 1, .int (nI h), .int (nI b), .int (nI x), .int (nI s)]
theorem k_V_readRings {l : Launch} {X : ra_X} {a : Ab} : ra_MOK l X mi_V_readRings (sp_V_readRings a) := by
  have h8 := ab_hc_8 a
  refine g_V_readRings k_R_has (sp_V_readRings a) (I_V_readRings a) ?_ ?_ ?_
  · intro as σ Z _ _ h
    obtain ⟨rfl, h1, h2, hZ⟩ := x_f0 h
    simp (disch := omega) only [b_V_readRings_66, b_V_readRings_53, b_V_readRings_34, b_V_readRings_26, b_V_readRings_17, b_V_readRings_10, b_V_readRings_2, b_V_readRings_0, e_al0, e_il1, e_il2, e_il3, e_il4, e_is2i, e_is2r, e_is2n, e_is3i, e_is3r, e_is3n, e_is4i, e_is4r, e_is4n, e_is1i, e_is1r, e_is1n, e_inc1i, e_inc1r, e_inc1n, e_inc4i, e_inc4r, e_inc4n, e_c, e_i2, e_b1, e_b2, e_gi, e_gr, e_ald, e_ast, e_vr, e_cs2, e_c10, e_c1i, e_c1r, e_sh0, e_sh1, e_sh2, e_sh3, e_sh4, e_tls, e_tln, e_tl0, e_tl1, cl_1, cl_9, ln_9, cl_11, ln_11, tg_1_5, tg_1_7, q_R_has, Nat.reduceAdd, true_and, and_true, true_implies, not_true_eq_false, false_implies, not_false_eq_true, imp_self, forall_const, List.append_nil, ra_I, ra_J, ra_pad, true_or, or_true, Nat.reduceEqDiff, ra_bz, eq_self, if_true, if_false, false_and, and_false, Nat.zero_le, List.cons_append, List.nil_append, Nat.reduceLT, Nat.reduceLeDiff, Nat.reduceMul, Nat.reduceSub, n_0, n_1, n_2, n_3, n_4, n_5, n_6, n_7, n_8, n_9, n_10, n_12, n_40, n_48, n_57, n_59, n_72, n_99, n_102, n_103, n_107, n_108, n_192, n_255, n_256, n_999, n_1000, n_104, nI_add, pk_mul, n_cl, n_inT, n_le, n_lt, n_eq, n_m1, n_m1', n_lem1, n_m1le, n_ltm1, n_m1lt, n_lepred, n_shl, fa_or]
    exact ⟨_, rfl, rfl, 0, 0, 0, 0, _, _, _, fun j hj => by omega, ra_fa.rf, by omega, rfl, rfl⟩
  · intro as σ0 Z h0 μ L S σ hI
    obtain ⟨rfl, rfl, h, s, b, x, u1, u2, u3, hq, hf, hh, rfl, rfl⟩ := hI
    obtain ⟨-, h1, h2, hZ⟩ := x_f0 h0
    rw [← hf 1 (by decide)] at h1
    simp (disch := omega) only [b_V_readRings_66, b_V_readRings_53, b_V_readRings_34, b_V_readRings_26, b_V_readRings_17, b_V_readRings_10, b_V_readRings_2, b_V_readRings_0, e_al0, e_il1, e_il2, e_il3, e_il4, e_is2i, e_is2r, e_is2n, e_is3i, e_is3r, e_is3n, e_is4i, e_is4r, e_is4n, e_is1i, e_is1r, e_is1n, e_inc1i, e_inc1r, e_inc1n, e_inc4i, e_inc4r, e_inc4n, e_c, e_i2, e_b1, e_b2, e_gi, e_gr, e_ald, e_ast, e_vr, e_cs2, e_c10, e_c1i, e_c1r, e_sh0, e_sh1, e_sh2, e_sh3, e_sh4, e_tls, e_tln, e_tl0, e_tl1, cl_1, cl_9, ln_9, cl_11, ln_11, tg_1_5, tg_1_7, q_R_has, Nat.reduceAdd, true_and, and_true, true_implies, not_true_eq_false, false_implies, not_false_eq_true, imp_self, forall_const, List.append_nil, ra_I, ra_J, ra_pad, true_or, or_true, Nat.reduceEqDiff, ra_bz, eq_self, if_true, if_false, false_and, and_false, Nat.zero_le, List.cons_append, List.nil_append, Nat.reduceLT, Nat.reduceLeDiff, Nat.reduceMul, Nat.reduceSub, n_0, n_1, n_2, n_3, n_4, n_5, n_6, n_7, n_8, n_9, n_10, n_12, n_40, n_48, n_57, n_59, n_72, n_99, n_102, n_103, n_107, n_108, n_192, n_255, n_256, n_999, n_1000, n_104, nI_add, pk_mul, n_cl, n_inT, n_le, n_lt, n_eq, n_m1, n_m1', n_lem1, n_m1le, n_ltm1, n_m1lt, n_lepred, n_shl, fa_or, h1]
    refine ⟨fun q => hZ σ (fun j hj => hq j (by omega)) hf, fun q => ⟨(ab_hc a - h, 0, ab_hc a - 0), lx2 (by omega), rfl, rfl, h, 0, 0, h, u1, u2, u3, hq, hf, by omega, by omega, by omega, by omega, rfl, rfl, rfl⟩⟩
  · intro as σ0 Z h0 μ L S σ hI
    obtain ⟨rfl, rfl, h, s, b, x, u1, u2, u3, hq, hf, hh, hs, hb, hx, hr, rfl, rfl⟩ := hI
    obtain ⟨-, h1, h2, hZ⟩ := x_f0 h0
    rw [← hf 1 (by decide)] at h1
    rw [← hf 9 (by decide)] at h2
    have how := ab_ow_lt hx
    have fin : ab_ring a h = b → ∃ μ', ra_lx μ' (ab_hc a - h, 0, ab_hc a - s) ∧ I_V_readRings a Z [.ref 1] σ0 2 μ' [.ref 1, .int (nI (h + 1)), .int (nI b), .int (nI x), .int (nI s)] [] (ra_sw σ 11 h (nI b)) := by
      intro e
      refine ⟨(ab_hc a - (h + 1), 1, 0), lx1 (by omega), rfl, rfl, h + 1, 0, 0, 0, _, _, _, fun j hj => ?_, hf.sw (by decide), by omega, rfl, rfl⟩
      rw [sw_at, if_pos rfl]
      split
      · next e2 => rw [e2, e]
      · exact hq j (by omega)
    by_cases hlt : s < ab_hc a
    · have es : ab_hc a - s = (ab_hc a - (s + 1)) + 1 := by omega
      simp (disch := omega) only [b_V_readRings_66, b_V_readRings_53, b_V_readRings_34, b_V_readRings_26, b_V_readRings_17, b_V_readRings_10, b_V_readRings_2, b_V_readRings_0, e_al0, e_il1, e_il2, e_il3, e_il4, e_is2i, e_is2r, e_is2n, e_is3i, e_is3r, e_is3n, e_is4i, e_is4r, e_is4n, e_is1i, e_is1r, e_is1n, e_inc1i, e_inc1r, e_inc1n, e_inc4i, e_inc4r, e_inc4n, e_c, e_i2, e_b1, e_b2, e_gi, e_gr, e_ald, e_ast, e_vr, e_cs2, e_c10, e_c1i, e_c1r, e_sh0, e_sh1, e_sh2, e_sh3, e_sh4, e_tls, e_tln, e_tl0, e_tl1, cl_1, cl_9, ln_9, cl_11, ln_11, tg_1_5, tg_1_7, q_R_has, Nat.reduceAdd, true_and, and_true, true_implies, not_true_eq_false, false_implies, not_false_eq_true, imp_self, forall_const, List.append_nil, ra_I, ra_J, ra_pad, true_or, or_true, Nat.reduceEqDiff, ra_bz, eq_self, if_true, if_false, false_and, and_false, Nat.zero_le, List.cons_append, List.nil_append, Nat.reduceLT, Nat.reduceLeDiff, Nat.reduceMul, Nat.reduceSub, n_0, n_1, n_2, n_3, n_4, n_5, n_6, n_7, n_8, n_9, n_10, n_12, n_40, n_48, n_57, n_59, n_72, n_99, n_102, n_103, n_107, n_108, n_192, n_255, n_256, n_999, n_1000, n_104, nI_add, pk_mul, n_cl, n_inT, n_le, n_lt, n_eq, n_m1, n_m1', n_lem1, n_m1le, n_ltm1, n_m1lt, n_lepred, n_shl, fa_or, h1, h2 x hx]
      refine ⟨fun q => by omega, fun _ => ⟨fun q => fin ?_, fun q => ⟨(ab_hc a - h, 0, ab_hc a - (s + 1)), lx3 (by omega), rfl, rfl, h, s + 1, b ||| 2 ^ x, ab_ow a x, u1, u2, u3, hq, hf, hh, by omega, Nat.or_lt_two_pow (n := 8) hb (Nat.pow_lt_pow_right (by decide) (by omega)), how, ?_, rfl, rfl⟩⟩⟩
      · rw [hr, es, ab_rg, if_pos q]
      · rw [hr, es, ab_rg, if_neg q]
    · simp (disch := omega) only [b_V_readRings_66, b_V_readRings_53, b_V_readRings_34, b_V_readRings_17, b_V_readRings_10, b_V_readRings_2, b_V_readRings_0, e_al0, e_il1, e_il2, e_il3, e_il4, e_is2i, e_is2r, e_is2n, e_is3i, e_is3r, e_is3n, e_is4i, e_is4r, e_is4n, e_is1i, e_is1r, e_is1n, e_inc1i, e_inc1r, e_inc1n, e_inc4i, e_inc4r, e_inc4n, e_c, e_i2, e_b1, e_b2, e_gi, e_gr, e_ald, e_ast, e_vr, e_cs2, e_c10, e_c1i, e_c1r, e_sh0, e_sh1, e_sh2, e_sh3, e_sh4, e_tls, e_tln, e_tl0, e_tl1, cl_1, cl_9, ln_9, cl_11, ln_11, tg_1_5, tg_1_7, q_R_has, Nat.reduceAdd, true_and, and_true, true_implies, not_true_eq_false, false_implies, not_false_eq_true, imp_self, forall_const, List.append_nil, ra_I, ra_J, ra_pad, true_or, or_true, Nat.reduceEqDiff, ra_bz, eq_self, if_true, if_false, false_and, and_false, Nat.zero_le, List.cons_append, List.nil_append, Nat.reduceLT, Nat.reduceLeDiff, Nat.reduceMul, Nat.reduceSub, n_0, n_1, n_2, n_3, n_4, n_5, n_6, n_7, n_8, n_9, n_10, n_12, n_40, n_48, n_57, n_59, n_72, n_99, n_102, n_103, n_107, n_108, n_192, n_255, n_256, n_999, n_1000, n_104, nI_add, pk_mul, n_cl, n_inT, n_le, n_lt, n_eq, n_m1, n_m1', n_lem1, n_m1le, n_ltm1, n_m1lt, n_lepred, n_shl, fa_or, h1]
      refine ⟨fun _ => fin ?_, fun q => by omega⟩
      rw [hr, show ab_hc a - s = 0 by omega, ab_rg]
/-- the village as read -/
def rc_V (a : Ab) (σ : ra_St) : Prop := rc_T a σ ∧ rc_H a σ ∧ σ 1 9 = ab_hf a ∧ σ 1 10 = ab_lf a ∧ ∀ h, h < ab_hc a → σ 9 h = nI (ab_ow a h) ∧ σ 10 h = nI (ab_on a h) ∧ σ 11 h = nI (ab_ring a h)
def sp_V_readTexts (a : Ab) : ra_Sp := ra_f0 1 (fun σ Z => rc_T a σ ∧ ∀ σ', rc_V a σ' → ra_fa [1, 6, 7, 8, 9, 10, 11] σ σ' → σ' 1 11 = σ 1 11 + 1 → Z none σ')
theorem q_V_readTexts {a : Ab} {oo : Nat} {σ : ra_St} {Z : ra_R} : sp_V_readTexts a [.ref oo] σ Z = (oo = 1 ∧ (rc_T a σ ∧ ∀ σ', rc_V a σ' → ra_fa [1, 6, 7, 8, 9, 10, 11] σ σ' → σ' 1 11 = σ 1 11 + 1 → Z none σ')) := rfl
theorem k_V_readTexts {l : Launch} {X : ra_X} {a : Ab} (hW : ab_W a) (kT : ra_MOK l X mi_V_temperAt (sp_V_temperAt a)) : ra_MOK l X mi_V_readTexts (sp_V_readTexts a) := by
  refine g_V_readTexts (k_V_findHousesFault hW kT) (k_V_readHouses hW kT) (k_V_findLotsFault hW) (k_V_readLots hW) (k_V_readRings (a := a)) (sp_V_readTexts a) ?_
  intro as σ Z _ _ h
  obtain ⟨rfl, hT, hZ⟩ := x_f0 h
  simp (disch := omega) only [b_V_readTexts_0, e_al0, e_c, e_i2, e_gi, e_pi, e_vr, e_dupi, e_dupr, e_cv1, e_hd, e_c10, e_c1i, e_c1r, e_sh0, e_sh1, e_sh2, e_sh3, e_sh4, e_tls, e_tln, e_tl0, e_tl1, cl_1, q_V_findHousesFault, q_V_readHouses, q_V_findLotsFault, q_V_readLots, q_V_readRings, Nat.reduceAdd, true_and, and_true, true_implies, not_true_eq_false, false_implies, not_false_eq_true, imp_self, forall_const, List.append_nil, ra_I, ra_J, ra_pad, true_or, or_true, Nat.reduceEqDiff, ra_bz, eq_self, if_true, if_false, false_and, and_false, Nat.zero_le, List.cons_append, List.nil_append, Nat.reduceLT, Nat.reduceLeDiff, Nat.reduceMul, Nat.reduceSub, n_0, n_1, n_2, n_3, n_4, n_5, n_6, n_7, n_8, n_9, n_10, n_12, n_40, n_48, n_57, n_59, n_72, n_99, n_102, n_103, n_107, n_108, n_192, n_255, n_256, n_999, n_1000, n_104, nI_add, pk_mul, n_cl, n_inT, n_le, n_lt, n_eq, n_m1, n_m1', n_lem1, n_m1le, n_ltm1, n_m1lt, n_lepred, n_shl, fa_or]
  have f1 : ra_fa [1] σ (ra_sw σ 1 11 (σ 1 11 + nI 1)) := ra_fa.rf.sw (by decide)
  have f2 : ra_fa [1] σ (ra_sw (ra_sw σ 1 11 (σ 1 11 + nI 1)) 1 9 (ab_hf a)) := f1.sw (by decide)
  refine ⟨hT.fa f1 (by decide), hT.fa f2 (by decide), by simp [sw_at], fun σ3 g1 g2 g3 => ?_⟩
  have f3 : ra_fa [1, 6, 7, 8] σ σ3 := (f2.mono (by decide)).tr g2 (by decide)
  have f4 : ra_fa [1, 6, 7, 8] σ (ra_sw σ3 1 10 (ab_lf a)) := f3.sw (by decide)
  refine ⟨hT.fa f3 (by decide), g1.1, hT.fa f4 (by decide), by simpa [sw_at] using g1.1, by simp [sw_at], fun σ5 k1 k2 => ?_⟩
  have e51 : σ5 1 = ra_sw σ3 1 10 (ab_lf a) 1 := k2 1 (by decide)
  refine ⟨by rw [e51]; simpa [sw_at] using g1.1, fun h hh => (k1 h hh).1, fun σ6 m1 m2 => ?_⟩
  have e61 : σ6 1 = ra_sw σ3 1 10 (ab_lf a) 1 := (m2 1 (by decide)).trans e51
  refine hZ σ6 ⟨?_, ⟨?_, fun h hh => ?_⟩, ?_, ?_, fun h hh => ?_⟩ ?_ ?_
  · exact ((hT.fa f4 (by decide)).fa k2 (by decide)).fa m2 (by decide)
  · rw [e61]; simpa [sw_at] using g1.1
  · rw [m2 6 (by decide), m2 7 (by decide), m2 8 (by decide), k2 6 (by decide), k2 7 (by decide), k2 8 (by decide)]
    simpa [sw_at] using g1.2 h hh
  · rw [e61, sw_at]
    simp [g3, sw_at]
  · rw [e61]; simp [sw_at]
  · rw [m2 9 (by decide), m2 10 (by decide)]
    exact ⟨(k1 h hh).1, (k1 h hh).2, m1 h hh⟩
  · exact ((f4.mono (by decide)).tr k2 (by decide)).tr m2 (by decide)
  · rw [e61, sw_at]
    simp [g3, sw_at]
    rfl
