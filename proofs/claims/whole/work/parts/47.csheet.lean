/-! the class: sheets -/
def sp_R_isNoSheet  : ra_Sp := ra_s1 (fun x σ Z => ra_bz (¬ an_in x 3) Z σ)
theorem q_R_isNoSheet  {x : Int32} {σ : ra_St} {Z : ra_R} : sp_R_isNoSheet  [.int x] σ Z = (ra_bz (¬ an_in x 3) Z σ) := rfl
theorem k_R_isNoSheet {l : Launch} {X : ra_X} : ra_MOK l X mi_R_isNoSheet sp_R_isNoSheet := by
  refine g_R_isNoSheet k_R_isOutside sp_R_isNoSheet ?_
  intro as σ Z _ _ h
  obtain ⟨x, rfl, hZ⟩ := x_s1 h
  simp (disch := omega) only [b_R_isNoSheet_0, e_il0, e_c, e_zr, e_cs3, e_c10, e_c1i, e_c1r, e_sh0, e_sh1, e_sh2, e_sh3, e_sh4, e_tls, e_tln, e_tl0, e_tl1, q_R_isOutside, Nat.reduceAdd, true_and, and_true, true_implies, not_true_eq_false, false_implies, not_false_eq_true, imp_self, forall_const, List.append_nil, ra_I, ra_J, ra_pad, true_or, or_true, Nat.reduceEqDiff, ra_bz, eq_self, if_true, if_false, false_and, and_false, Nat.zero_le, List.cons_append, List.nil_append, Nat.reduceLT, Nat.reduceLeDiff, Nat.reduceMul, Nat.reduceSub, n_0, n_1, n_2, n_3, n_4, n_5, n_6, n_7, n_8, n_9, n_10, n_12, n_40, n_48, n_57, n_59, n_72, n_99, n_102, n_103, n_107, n_108, n_192, n_255, n_256, n_999, n_1000, n_104, nI_add, pk_mul, n_cl, n_inT, n_le, n_lt, n_eq, n_m1, n_m1', n_lem1, n_m1le, n_ltm1, n_m1lt, n_lepred, n_shl, fa_or]
  exact hZ
def sp_R_isNoForm  : ra_Sp := ra_s1 (fun x σ Z => ra_bz (¬ an_in x 2) Z σ)
theorem q_R_isNoForm  {x : Int32} {σ : ra_St} {Z : ra_R} : sp_R_isNoForm  [.int x] σ Z = (ra_bz (¬ an_in x 2) Z σ) := rfl
theorem k_R_isNoForm {l : Launch} {X : ra_X} : ra_MOK l X mi_R_isNoForm sp_R_isNoForm := by
  refine g_R_isNoForm k_R_isOutside sp_R_isNoForm ?_
  intro as σ Z _ _ h
  obtain ⟨x, rfl, hZ⟩ := x_s1 h
  simp (disch := omega) only [b_R_isNoForm_0, e_il0, e_c, e_zr, e_cs3, e_c10, e_c1i, e_c1r, e_sh0, e_sh1, e_sh2, e_sh3, e_sh4, e_tls, e_tln, e_tl0, e_tl1, q_R_isOutside, Nat.reduceAdd, true_and, and_true, true_implies, not_true_eq_false, false_implies, not_false_eq_true, imp_self, forall_const, List.append_nil, ra_I, ra_J, ra_pad, true_or, or_true, Nat.reduceEqDiff, ra_bz, eq_self, if_true, if_false, false_and, and_false, Nat.zero_le, List.cons_append, List.nil_append, Nat.reduceLT, Nat.reduceLeDiff, Nat.reduceMul, Nat.reduceSub, n_0, n_1, n_2, n_3, n_4, n_5, n_6, n_7, n_8, n_9, n_10, n_12, n_40, n_48, n_57, n_59, n_72, n_99, n_102, n_103, n_107, n_108, n_192, n_255, n_256, n_999, n_1000, n_104, nI_add, pk_mul, n_cl, n_inT, n_le, n_lt, n_eq, n_m1, n_m1', n_lem1, n_m1le, n_ltm1, n_m1lt, n_lepred, n_shl, fa_or]
  exact hZ
def sp_R_find  : ra_Sp := ra_f1 0 (fun x σ Z => Z (some (.int (-10 - x))) (ra_sw σ 0 9 x))
theorem q_R_find  {oo : Nat} {x : Int32} {σ : ra_St} {Z : ra_R} : sp_R_find  [.ref oo, .int x] σ Z = (oo = 0 ∧ (Z (some (.int (-10 - x))) (ra_sw σ 0 9 x))) := rfl
theorem k_R_find {l : Launch} {X : ra_X} : ra_MOK l X mi_R_find sp_R_find := by
  refine g_R_find sp_R_find ?_
  intro as σ Z _ _ h
  obtain ⟨x, rfl, hZ⟩ := x_f1 h
  simp (disch := omega) only [b_R_find_0, e_al0, e_il1, e_c, e_i2, e_pi, e_ir, cl_0, Nat.reduceAdd, true_and, and_true, true_implies, not_true_eq_false, false_implies, not_false_eq_true, imp_self, forall_const, List.append_nil, ra_I, ra_J, ra_pad, true_or, or_true, Nat.reduceEqDiff, ra_bz, eq_self, if_true, if_false, false_and, and_false, Nat.zero_le, List.cons_append, List.nil_append, Nat.reduceLT, Nat.reduceLeDiff, Nat.reduceMul, Nat.reduceSub, n_0, n_1, n_2, n_3, n_4, n_5, n_6, n_7, n_8, n_9, n_10, n_12, n_40, n_48, n_57, n_59, n_72, n_99, n_102, n_103, n_107, n_108, n_192, n_255, n_256, n_999, n_1000, n_104, nI_add, pk_mul, n_cl, n_inT, n_le, n_lt, n_eq, n_m1, n_m1', n_lem1, n_m1le, n_ltm1, n_m1lt, n_lepred, n_shl, fa_or]
  exact hZ
theorem rc_I.met {a : Ab} {b : Bb} {n : Nat} {σ : ra_St} {x : Int32} (h : rc_I a b n σ) : rc_I a (bb_u b 5 0 x) (n + 1) (ra_sw σ 0 9 x) ∧ ra_up σ (ra_sw σ 0 9 x) := by
  have hf : ra_fs [72, 74, 75, 76, 77, 78, 79, 80, 81] [(0, 9)] σ (ra_sw σ 0 9 x) := ra_fs.rf.sw (Or.inr (by decide))
  refine ⟨h.oth ?_ hf, hf.hi (by decide)⟩
  obtain ⟨k1, k2, k3⟩ := h.2.2.2.2.1
  refine ⟨by simpa [sw_at, bb_u] using k1, by simp [sw_at, bb_u], fun s hs => ?_⟩
  have := k3 s hs
  simpa [sw_at, bb_u] using this
def sp_Sh_findingAt (b : Bb) (s : Nat) : ra_Sp := ra_f2 (74+2*s) (fun f i σ Z => s < 4 ∧ rc_C b σ ∧ bb_W b ∧ Z (some (.int (bb_lk b s f i))) σ)
theorem q_Sh_findingAt {b : Bb} {s : Nat} {oo : Nat} {f i : Int32} {σ : ra_St} {Z : ra_R} : sp_Sh_findingAt b s [.ref oo, .int f, .int i] σ Z = (oo = (74+2*s) ∧ (s < 4 ∧ rc_C b σ ∧ bb_W b ∧ Z (some (.int (bb_lk b s f i))) σ)) := rfl
theorem k_Sh_findingAt {l : Launch} {X : ra_X} {b : Bb} {s : Nat} : ra_MOK l X mi_Sh_findingAt (sp_Sh_findingAt b s) := by
  refine g_Sh_findingAt k_R_isOutside (sp_Sh_findingAt b s) ?_
  intro as σ Z _ _ h
  obtain ⟨f, i, rfl, hs, hC, hB, hZ⟩ := x_f2 h
  obtain ⟨t1, t2, t3, t4, t5⟩ := tg_q s hs
  obtain ⟨c1, c2⟩ := hC.2.2 s hs
  unfold bb_lk at hZ
  rcases (hB s hs).1 with q0 | q1
  · rw [if_pos q0] at hZ
    simp (disch := omega) only [b_Sh_findingAt_38, b_Sh_findingAt_37, b_Sh_findingAt_33, b_Sh_findingAt_19, b_Sh_findingAt_17, b_Sh_findingAt_7, b_Sh_findingAt_0, e_il2, e_al0, e_il1, e_c, e_i2, e_b1, e_b2, e_gi, e_ir, e_cs3, e_c10, e_c1i, e_c1r, e_sh0, e_sh1, e_sh2, e_sh3, e_sh4, e_tls, e_tln, e_tl0, e_tl1, q_R_isOutside, Nat.reduceAdd, true_and, and_true, true_implies, not_true_eq_false, false_implies, not_false_eq_true, imp_self, forall_const, List.append_nil, ra_I, ra_J, ra_pad, true_or, or_true, Nat.reduceEqDiff, ra_bz, eq_self, if_true, if_false, false_and, and_false, Nat.zero_le, List.cons_append, List.nil_append, Nat.reduceLT, Nat.reduceLeDiff, Nat.reduceMul, Nat.reduceSub, n_0, n_1, n_2, n_3, n_4, n_5, n_6, n_7, n_8, n_9, n_10, n_12, n_40, n_48, n_57, n_59, n_72, n_99, n_102, n_103, n_107, n_108, n_192, n_255, n_256, n_999, n_1000, n_104, nI_add, pk_mul, n_cl, n_inT, n_le, n_lt, n_eq, n_m1, n_m1', n_lem1, n_m1le, n_ltm1, n_m1lt, n_lepred, n_shl, fa_or, t2, c1 q0]
    done
  · obtain ⟨d1, d2, d3, d4⟩ := c2 q1
    rw [if_neg (by rw [q1]; decide)] at hZ
    simp (disch := omega) only [b_Sh_findingAt_38, b_Sh_findingAt_37, b_Sh_findingAt_33, b_Sh_findingAt_19, b_Sh_findingAt_17, b_Sh_findingAt_9, b_Sh_findingAt_7, b_Sh_findingAt_0, e_il2, e_al0, e_il1, e_c, e_i2, e_b1, e_b2, e_gi, e_ir, e_cs3, e_c10, e_c1i, e_c1r, e_sh0, e_sh1, e_sh2, e_sh3, e_sh4, e_tls, e_tln, e_tl0, e_tl1, q_R_isOutside, Nat.reduceAdd, true_and, and_true, true_implies, not_true_eq_false, false_implies, not_false_eq_true, imp_self, forall_const, List.append_nil, ra_I, ra_J, ra_pad, true_or, or_true, Nat.reduceEqDiff, ra_bz, eq_self, if_true, if_false, false_and, and_false, Nat.zero_le, List.cons_append, List.nil_append, Nat.reduceLT, Nat.reduceLeDiff, Nat.reduceMul, Nat.reduceSub, n_0, n_1, n_2, n_3, n_4, n_5, n_6, n_7, n_8, n_9, n_10, n_12, n_40, n_48, n_57, n_59, n_72, n_99, n_102, n_103, n_107, n_108, n_192, n_255, n_256, n_999, n_1000, n_104, nI_add, pk_mul, n_cl, n_inT, n_le, n_lt, n_eq, n_m1, n_m1', n_lem1, n_m1le, n_ltm1, n_m1lt, n_lepred, n_shl, fa_or, t2, d1, d2, d3]
    done
def sp_Sh_store (s : Nat) : ra_Sp := ra_f2 (74+2*s) (fun i v σ Z => s < 4 ∧ vp_in i 48 ∧ Z none (ra_sw σ (75 + 2 * s) i.toNatClampNeg (bb_cv (σ (74 + 2 * s) 2) v)))
theorem q_Sh_store {s : Nat} {oo : Nat} {i v : Int32} {σ : ra_St} {Z : ra_R} : sp_Sh_store s [.ref oo, .int i, .int v] σ Z = (oo = (74+2*s) ∧ (s < 4 ∧ vp_in i 48 ∧ Z none (ra_sw σ (75 + 2 * s) i.toNatClampNeg (bb_cv (σ (74 + 2 * s) 2) v)))) := rfl
theorem k_Sh_store {l : Launch} {X : ra_X} {s : Nat} : ra_MOK l X mi_Sh_store (sp_Sh_store s) := by
  refine g_Sh_store (sp_Sh_store s) ?_
  intro as σ Z _ _ h
  obtain ⟨i, v, rfl, hs, hi, hZ⟩ := x_f2 h
  obtain ⟨i, hi2, rfl⟩ := vp_in_of hi (by decide)
  rw [n_cl (by omega)] at hZ
  obtain ⟨t1, t2, t3, t4, t5⟩ := tg_q s hs
  unfold bb_cv at hZ
  simp (disch := omega) only [b_Sh_store_44, b_Sh_store_37, b_Sh_store_26, b_Sh_store_18, b_Sh_store_7, b_Sh_store_0, e_al0, e_il1, e_il2, e_c, e_i1, e_b1, e_b2, e_gi, e_gr, e_ast, e_vr, Nat.reduceAdd, true_and, and_true, true_implies, not_true_eq_false, false_implies, not_false_eq_true, imp_self, forall_const, List.append_nil, ra_I, ra_J, ra_pad, true_or, or_true, Nat.reduceEqDiff, ra_bz, eq_self, if_true, if_false, false_and, and_false, Nat.zero_le, List.cons_append, List.nil_append, Nat.reduceLT, Nat.reduceLeDiff, Nat.reduceMul, Nat.reduceSub, n_0, n_1, n_2, n_3, n_4, n_5, n_6, n_7, n_8, n_9, n_10, n_12, n_40, n_48, n_57, n_59, n_72, n_99, n_102, n_103, n_107, n_108, n_192, n_255, n_256, n_999, n_1000, n_104, nI_add, pk_mul, n_cl, n_inT, n_le, n_lt, n_eq, n_m1, n_m1', n_lem1, n_m1le, n_ltm1, n_m1lt, n_lepred, n_shl, fa_or, t2, t3, t4, t5]
  done
