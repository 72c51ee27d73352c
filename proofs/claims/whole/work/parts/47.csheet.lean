/-! the class: sheets -/
def sp_R_isNoSheet  : ra_Sp := ra_s1 (fun x σ Z => ra_bz (¬ an_in x 3) Z σ)
theorem q_R_isNoSheet  {x : Int32} {σ : ra_St} {Z : ra_R} : sp_R_isNoSheet  [.int x] σ Z = (ra_bz (¬ an_in x 3) Z σ) := rfl
theorem k_R_isNoSheet {l : Launch} {X : ra_X} : ra_MOK l X mi_R_isNoSheet sp_R_isNoSheet := by
  refine g_R_isNoSheet k_R_isOutside sp_R_isNoSheet ?_
  intro as σ Z _ _ h
  obtain ⟨x, rfl, hZ⟩ := x_s1 h
  simp (disch := omega) only [b_R_isNoSheet_0, e_il0, e_c, e_zr, e_cs3, e_c10, e_c1i, e_c1r, e_sh0, e_sh1, e_sh2, e_sh3, e_sh4, e_tls, e_tln, e_tl0, e_tl1, q_R_isOutside, Nat.reduceAdd, true_and, and_true, true_implies, not_true_eq_false, false_implies, not_false_eq_true, imp_self, forall_const, List.append_nil, ra_I, ra_J, ra_pad, true_or, or_true, Nat.reduceEqDiff, ra_bz, eq_self, if_true, if_false, false_and, and_false, Nat.zero_le, List.cons_append, List.nil_append, Nat.reduceLT, Nat.reduceLeDiff, Nat.reduceMul, Nat.reduceSub, n_0, n_1, n_2, n_3, n_4, n_5, n_6, n_7, n_8, n_9, n_10, n_12, n_40, n_48, n_57, n_59, n_72, n_99, n_102, n_103, n_107, n_108, n_192, n_255, n_256, n_999, n_1000, n_104, nI_add, pk_mul, n_cl, n_inT, n_le, n_lt, n_eq, n_m1, n_m1', n_lem1, n_m1le, n_ltm1, n_m1lt, n_lepred, n_shl, fa_or]
  exact hZ
def sp_R_isNoForm  : ra_Sp := ra_s1 (fun x σ Z => ra_bz (¬ an_in x 2) Z σ)
theorem q_R_isNoForm  {x : Int32} {σ : ra_St} {Z : ra_R} : sp_R_isNoForm  [.int x] σ Z = (ra_bz (¬ an_in x 2) Z σ) := rfl
theorem k_R_isNoForm {l : Launch} {X : ra_X} : ra_MOK l X mi_R_isNoForm sp_R_isNoForm := by
  refine g_R_isNoForm k_R_isOutside sp_R_isNoForm ?_
  intro as σ Z _ _ h
  obtain ⟨x, rfl, hZ⟩ := x_s1 h
  simp (disch := omega) only [b_R_isNoForm_0, e_il0, e_c, e_zr, e_cs3, e_c10, e_c1i, e_c1r, e_sh0, e_sh1, e_sh2, e_sh3, e_sh4, e_tls, e_tln, e_tl0, e_tl1, q_R_isOutside, Nat.reduceAdd, true_and, and_true, true_implies, not_true_eq_false, false_implies, not_false_eq_true, imp_self, forall_const, List.append_nil, ra_I, ra_J, ra_pad, true_or, or_true, Nat.reduceEqDiff, ra_bz, eq_self, if_true, if_false, false_and, and_false, Nat.zero_le, List.cons_append, List.nil_append, Nat.reduceLT, Nat.reduceLeDiff, Nat.reduceMul, Nat.reduceSub, n_0, n_1, n_2, n_3, n_4, n_5, n_6, n_7, n_8, n_9, n_10, n_12, n_40, n_48, n_57, n_59, n_72, n_99, n_102, n_103, n_107, n_108, n_192, n_255, n_256, n_999, n_1000, n_104, nI_add, pk_mul, n_cl, n_inT, n_le, n_lt, n_eq, n_m1, n_m1', n_lem1, n_m1le, n_ltm1, n_m1lt, n_lepred, n_shl, fa_or]
  exact hZ
def sp_R_find  : ra_Sp := ra_f1 0 (fun x σ Z => Z (some (.int (-10 - x))) (ra_sw σ 0 9 x))
theorem q_R_find  {oo : Nat} {x : Int32} {σ : ra_St} {Z : ra_R} : sp_R_find  [.ref oo, .int x] σ Z = (oo = 0 ∧ (Z (some (.int (-10 - x))) (ra_sw σ 0 9 x))) := rfl
theorem k_R_find {l : Launch} {X : ra_X} : ra_MOK l X mi_R_find sp_R_find := by
  refine g_R_find sp_R_find ?_
  intro as σ Z _ _ h
  obtain ⟨x, rfl, hZ⟩ := x_f1 h
  simp (disch := omega) only [b_R_find_0, e_al0, e_il1, e_c, e_i2, e_pi, e_ir, cl_0, Nat.reduceAdd, true_and, and_true, true_implies, not_true_eq_false, false_implies, not_false_eq_true, imp_self, forall_const, List.append_nil, ra_I, ra_J, ra_pad, true_or, or_true, Nat.reduceEqDiff, ra_bz, eq_self, if_true, if_false, false_and, and_false, Nat.zero_le, List.cons_append, List.nil_append, Nat.reduceLT, Nat.reduceLeDiff, Nat.reduceMul, Nat.reduceSub, n_0, n_1, n_2, n_3, n_4, n_5, n_6, n_7, n_8, n_9, n_10, n_12, n_40, n_48, n_57, n_59, n_72, n_99, n_102, n_103, n_107, n_108, n_192, n_255, n_256, n_999, n_1000, n_104, nI_add, pk_mul, n_cl, n_inT, n_le, n_lt, n_eq, n_m1, n_m1', n_lem1, n_m1le, n_ltm1, n_m1lt, n_lepred, n_shl, fa_or]
  exact hZ
theorem rc_I.met {a : Ab} {b : Bb} {n : Nat} {σ : ra_St} {x : Int32} (h : rc_I a b n σ) : rc_I a (bb_u b 5 0 x) (n + 1) (ra_sw σ 0 9 x) ∧ ra_up σ (ra_sw σ 0 9 x) := by
  have hf : ra_fs [72, 74, 75, 76, 77, 78, 79, 80, 81] [(0, 9)] σ (ra_sw σ 0 9 x) := ra_fs.rf.sw (Or.inr (by decide))
  refine ⟨h.oth ?_ hf, hf.hi (by decide)⟩
  obtain ⟨k1, k2, k3⟩ := h.2.2.2.2.1
  refine ⟨by simpa [sw_at, bb_u] using k1, by simp [sw_at, bb_u], fun s hs => ?_⟩
  have := k3 s hs
  simpa [sw_at, bb_u] using this
def sp_Sh_findingAt (b : Bb) (s : Nat) : ra_Sp := ra_f2 (74+2*s) (fun f i σ Z => s < 4 ∧ rc_C b σ ∧ bb_W b ∧ Z (some (.int (bb_lk b s f i))) σ)
theorem q_Sh_findingAt {b : Bb} {s : Nat} {oo : Nat} {f i : Int32} {σ : ra_St} {Z : ra_R} : sp_Sh_findingAt b s [.ref oo, .int f, .int i] σ Z = (oo = (74+2*s) ∧ (s < 4 ∧ rc_C b σ ∧ bb_W b ∧ Z (some (.int (bb_lk b s f i))) σ)) := rfl
theorem k_Sh_findingAt {l : Launch} {X : ra_X} {b : Bb} {s : Nat} : ra_MOK l X mi_Sh_findingAt (sp_Sh_findingAt b s) := by
  refine g_Sh_findingAt k_R_isOutside (sp_Sh_findingAt b s) ?_
  intro as σ Z _ _ h
  obtain ⟨f, i, rfl, hs, hC, hB, hZ⟩ := x_f2 h
  obtain ⟨t1, t2, t3, t4, t5⟩ := tg_q s hs
  obtain ⟨c1, c2⟩ := hC.2.2 s hs
  unfold bb_lk at hZ
  rcases (hB s hs).1 with q0 | q1
  · rw [if_pos q0] at hZ
    simp (disch := omega) only [b_Sh_findingAt_38, b_Sh_findingAt_37, b_Sh_findingAt_33, b_Sh_findingAt_19, b_Sh_findingAt_17, b_Sh_findingAt_7, b_Sh_findingAt_0, e_il2, e_al0, e_il1, e_c, e_i2, e_b1, e_b2, e_gi, e_ir, e_cs3, e_c10, e_c1i, e_c1r, e_sh0, e_sh1, e_sh2, e_sh3, e_sh4, e_tls, e_tln, e_tl0, e_tl1, q_R_isOutside, Nat.reduceAdd, true_and, and_true, true_implies, not_true_eq_false, false_implies, not_false_eq_true, imp_self, forall_const, List.append_nil, ra_I, ra_J, ra_pad, true_or, or_true, Nat.reduceEqDiff, ra_bz, eq_self, if_true, if_false, false_and, and_false, Nat.zero_le, List.cons_append, List.nil_append, Nat.reduceLT, Nat.reduceLeDiff, Nat.reduceMul, Nat.reduceSub, n_0, n_1, n_2, n_3, n_4, n_5, n_6, n_7, n_8, n_9, n_10, n_12, n_40, n_48, n_57, n_59, n_72, n_99, n_102, n_103, n_107, n_108, n_192, n_255, n_256, n_999, n_1000, n_104, nI_add, pk_mul, n_cl, n_inT, n_le, n_lt, n_eq, n_m1, n_m1', n_lem1, n_m1le, n_ltm1, n_m1lt, n_lepred, n_shl, fa_or, t2, c1 q0]
    exact hZ
  · obtain ⟨d1, d2, d3, d4⟩ := c2 q1
    rw [if_neg (by rw [q1]; decide)] at hZ
    simp (disch := omega) only [b_Sh_findingAt_38, b_Sh_findingAt_37, b_Sh_findingAt_33, b_Sh_findingAt_19, b_Sh_findingAt_17, b_Sh_findingAt_9, b_Sh_findingAt_7, b_Sh_findingAt_0, e_il2, e_al0, e_il1, e_c, e_i2, e_b1, e_b2, e_gi, e_ir, e_cs3, e_c10, e_c1i, e_c1r, e_sh0, e_sh1, e_sh2, e_sh3, e_sh4, e_tls, e_tln, e_tl0, e_tl1, q_R_isOutside, Nat.reduceAdd, true_and, and_true, true_implies, not_true_eq_false, false_implies, not_false_eq_true, imp_self, forall_const, List.append_nil, ra_I, ra_J, ra_pad, true_or, or_true, Nat.reduceEqDiff, ra_bz, eq_self, if_true, if_false, false_and, and_false, Nat.zero_le, List.cons_append, List.nil_append, Nat.reduceLT, Nat.reduceLeDiff, Nat.reduceMul, Nat.reduceSub, n_0, n_1, n_2, n_3, n_4, n_5, n_6, n_7, n_8, n_9, n_10, n_12, n_40, n_48, n_57, n_59, n_72, n_99, n_102, n_103, n_107, n_108, n_192, n_255, n_256, n_999, n_1000, n_104, nI_add, pk_mul, n_cl, n_inT, n_le, n_lt, n_eq, n_m1, n_m1', n_lem1, n_m1le, n_ltm1, n_m1lt, n_lepred, n_shl, fa_or, t2, d1, d2, d3]
    refine ⟨fun q => ⟨fun q2 => ?_, fun q2 => ?_⟩, fun q => ?_⟩
    · rw [if_pos q, if_neg (show ¬ (0 ≤ i ∧ i ≤ b 3 s - 1) from q2)] at hZ; exact hZ
    · rw [if_pos q, if_pos (show 0 ≤ i ∧ i ≤ b 3 s - 1 from Classical.not_not.mp q2)] at hZ; exact hZ
    · rw [if_neg q] at hZ; exact hZ
def sp_Sh_store (s : Nat) : ra_Sp := ra_f2 (74+2*s) (fun i v σ Z => s < 4 ∧ vp_in i 48 ∧ Z none (ra_sw σ (75 + 2 * s) i.toNatClampNeg (bb_cv (σ (74 + 2 * s) 2) v)))
theorem q_Sh_store {s : Nat} {oo : Nat} {i v : Int32} {σ : ra_St} {Z : ra_R} : sp_Sh_store s [.ref oo, .int i, .int v] σ Z = (oo = (74+2*s) ∧ (s < 4 ∧ vp_in i 48 ∧ Z none (ra_sw σ (75 + 2 * s) i.toNatClampNeg (bb_cv (σ (74 + 2 * s) 2) v)))) := rfl
theorem k_Sh_store {l : Launch} {X : ra_X} {s : Nat} : ra_MOK l X mi_Sh_store (sp_Sh_store s) := by
  refine g_Sh_store (sp_Sh_store s) ?_
  intro as σ Z _ _ h
  obtain ⟨i, v, rfl, hs, hi, hZ⟩ := x_f2 h
  obtain ⟨i, hi2, rfl⟩ := vp_in_of hi (by decide)
  rw [n_cl (by omega)] at hZ
  obtain ⟨t1, t2, t3, t4, t5⟩ := tg_q s hs
  unfold bb_cv at hZ
  simp (disch := omega) only [b_Sh_store_44, b_Sh_store_37, b_Sh_store_26, b_Sh_store_18, b_Sh_store_7, b_Sh_store_0, e_al0, e_il1, e_il2, e_c, e_i1, e_b1, e_b2, e_gi, e_gr, e_ast, e_vr, Nat.reduceAdd, true_and, and_true, true_implies, not_true_eq_false, false_implies, not_false_eq_true, imp_self, forall_const, List.append_nil, ra_I, ra_J, ra_pad, true_or, or_true, Nat.reduceEqDiff, ra_bz, eq_self, if_true, if_false, false_and, and_false, Nat.zero_le, List.cons_append, List.nil_append, Nat.reduceLT, Nat.reduceLeDiff, Nat.reduceMul, Nat.reduceSub, n_0, n_1, n_2, n_3, n_4, n_5, n_6, n_7, n_8, n_9, n_10, n_12, n_40, n_48, n_57, n_59, n_72, n_99, n_102, n_103, n_107, n_108, n_192, n_255, n_256, n_999, n_1000, n_104, nI_add, pk_mul, n_cl, n_inT, n_le, n_lt, n_eq, n_m1, n_m1', n_lem1, n_m1le, n_ltm1, n_m1lt, n_lepred, n_shl, fa_or, t2, t3, t4, t5]
  refine ⟨fun q => ?_, fun q => ⟨fun q2 => ?_, fun q2 => ?_⟩⟩
  · rw [if_pos (show σ (74 + 2 * s) 2 = 0 from q)] at hZ; exact hZ
  · rw [if_neg (show ¬ σ (74 + 2 * s) 2 = 0 from q), if_pos (show σ (74 + 2 * s) 2 = 1 from q2)] at hZ; exact hZ
  · rw [if_neg (show ¬ σ (74 + 2 * s) 2 = 0 from q), if_neg (show ¬ σ (74 + 2 * s) 2 = 1 from q2)] at hZ; exact hZ
theorem rc_C.item {b : Bb} {σ : ra_St} {s i : Nat} {v : Int32} (hC : rc_C b σ) (hB : bb_W b) (hs : s < 4) (hi : i < 48) : rc_C (bb_u b 4 (48 * s + i) v) (ra_sw σ (75 + 2 * s) i v) := by
  obtain ⟨k1, k2, k3⟩ := hC
  refine ⟨fun h hh => ?_, ?_, fun r hr => ?_⟩
  · rw [sw_at, if_neg (by omega)]
    simpa [bb_u] using k1 h hh
  · rw [sw_at, if_neg (by omega)]
    simpa [bb_u] using k2
  · obtain ⟨c1, c2⟩ := k3 r hr
    refine ⟨fun q => ?_, fun q => ?_⟩
    · rw [sw_at, if_neg (by omega)]
      exact c1 (by simpa [bb_u] using q)
    · obtain ⟨d1, d2, d3, d4⟩ := c2 (by simpa [bb_u] using q)
      refine ⟨?_, ?_, ?_, fun j hj => ?_⟩
      · rw [sw_at, if_neg (by omega)]; exact d1
      · rw [sw_at, if_neg (by omega)]; simpa [bb_u] using d2
      · rw [sw_at, if_neg (by omega)]; simpa [bb_u] using d3
      · have hj2 : j < (b 3 r).toNatClampNeg := by simpa [bb_u] using hj
        rw [sw_at]
        simp only [bb_u]
        by_cases e : r = s
        · subst e
          by_cases e2 : j = i
          · subst e2; simp
          · rw [if_pos rfl, if_neg e2, if_neg (by omega)]
            exact d4 j hj2
        · rw [if_neg (by omega)]
          obtain ⟨-, -, m, hm, em⟩ := hB r hr
          rw [em, n_cl (by omega)] at hj2
          have h9 := d4 j (by rw [em, n_cl (by omega)]; exact hj2)
          rw [if_neg (by omega)]
          exact h9
theorem bb_put_e {b : Bb} {s : Nat} {f i v : Int32} (hs : s ≤ 3) (hf : an_in f 2) : bb_put b (nI s) f i v = if 0 < bb_lk b s f i then (bb_u b 5 0 (bb_lk b s f i), -10 - bb_lk b s f i) else (bb_u b 4 (48 * s + i.toNatClampNeg) (bb_cv (b 2 s) v), 1) := by
  unfold bb_put
  rw [if_pos ⟨an_in_nI hs (by decide), hf⟩, n_cl (by omega)]
theorem bb_lk_pos {b : Bb} {s : Nat} {f i : Int32} : (bb_lk b s f i = 0 ∧ ¬ 0 < bb_lk b s f i) ∨ (¬ bb_lk b s f i = 0 ∧ 0 < bb_lk b s f i) := by
  unfold bb_lk
  split
  · exact Or.inr ⟨by decide, by decide⟩
  · split
    · split
      · exact Or.inl ⟨rfl, by decide⟩
      · exact Or.inr ⟨by decide, by decide⟩
    · exact Or.inr ⟨by decide, by decide⟩
def sp_R_put (a : Ab) (b : Bb) (n : Nat) : ra_Sp := ra_f4 0 (fun s f i v σ Z => rc_I a b n σ ∧ bb_W b ∧ ∀ σ', rc_I a (bb_put b s f i v).1 (n + 1) σ' → ra_up σ σ' → Z (some (.int (bb_put b s f i v).2)) σ')
theorem q_R_put {a : Ab} {b : Bb} {n : Nat} {oo : Nat} {s f i v : Int32} {σ : ra_St} {Z : ra_R} : sp_R_put a b n [.ref oo, .int s, .int f, .int i, .int v] σ Z = (oo = 0 ∧ (rc_I a b n σ ∧ bb_W b ∧ ∀ σ', rc_I a (bb_put b s f i v).1 (n + 1) σ' → ra_up σ σ' → Z (some (.int (bb_put b s f i v).2)) σ')) := rfl
theorem k_R_put {l : Launch} {X : ra_X} {a : Ab} {b : Bb} {n : Nat} : ra_MOK l X mi_R_put (sp_R_put a b n) := by
  refine g_R_put (c2 := fun as σ Z => ∃ s : Nat, True ∧ sp_Sh_findingAt b s as σ Z) (c4 := fun as σ Z => ∃ s : Nat, True ∧ sp_Sh_store s as σ Z) k_R_isNoSheet k_R_isNoForm (ra_MOK_ex (fun s _ => k_Sh_findingAt)) k_R_find (ra_MOK_ex (fun s _ => k_Sh_store)) (sp_R_put a b n) ?_
  intro as σ Z _ _ h
  obtain ⟨s, f, i, v, rfl, hI, hB, hZ⟩ := x_f4 h
  have hC := hI.2.2.2.2.1
  by_cases hy : an_in s 3 ∧ an_in f 2
  · obtain ⟨s, hs, rfl⟩ := an_in_of hy.1 (by decide)
    rw [bb_put_e hs hy.2] at hZ
    obtain ⟨t1, t2, t3, t4, t5⟩ := tg_q s (by omega)
    simp (disch := omega) only [b_R_put_42, b_R_put_35, b_R_put_17, b_R_put_14, b_R_put_7, b_R_put_0, e_al0, e_il1, e_il3, e_il4, e_il5, e_il2, e_is5i, e_is5r, e_is5n, e_c, e_b1, e_gr, e_rld, e_ir, e_cs1, e_cv3, e_hd, e_cv2, e_c10, e_c1i, e_c1r, e_sh0, e_sh1, e_sh2, e_sh3, e_sh4, e_tls, e_tln, e_tl0, e_tl1, cl_0, cl_73, ln_73, tg_0_8, q_R_isNoSheet, q_R_isNoForm, q_Sh_findingAt, q_R_find, q_Sh_store, Nat.reduceAdd, true_and, and_true, true_implies, not_true_eq_false, false_implies, not_false_eq_true, imp_self, forall_const, List.append_nil, ra_I, ra_J, ra_pad, true_or, or_true, Nat.reduceEqDiff, ra_bz, eq_self, if_true, if_false, false_and, and_false, Nat.zero_le, List.cons_append, List.nil_append, Nat.reduceLT, Nat.reduceLeDiff, Nat.reduceMul, Nat.reduceSub, n_0, n_1, n_2, n_3, n_4, n_5, n_6, n_7, n_8, n_9, n_10, n_12, n_40, n_48, n_57, n_59, n_72, n_99, n_102, n_103, n_107, n_108, n_192, n_255, n_256, n_999, n_1000, n_104, nI_add, pk_mul, n_cl, n_inT, n_le, n_lt, n_eq, n_m1, n_m1', n_lem1, n_m1le, n_ltm1, n_m1lt, n_lepred, n_shl, fa_or, t1, t2, q_Sh_findingAt, q_Sh_store]
    refine ⟨fun q => absurd hy.1 q, fun _ => ⟨fun q => absurd hy.2 q, fun _ => ⟨s, rfl, by omega, hC, hB, fun q => ⟨s, rfl, by omega, ?_⟩, fun q => ?_⟩⟩⟩
    · rcases bb_lk_pos (b := b) (s := s) (f := f) (i := i) with ⟨z1, z2⟩ | ⟨z1, z2⟩
      · obtain ⟨-, l1, l2, m, rfl, hm, -⟩ := bb_lk_0 hB (by omega) z2
        rw [if_neg z2, n_cl (by omega)] at hZ
        rw [n_cl (by omega), ((hC.2.2 s (by omega)).2 l1).2.1]
        have hf : ra_fs [72, 74, 75, 76, 77, 78, 79, 80, 81] [(0, 9)] σ (ra_sw σ (75 + 2 * s) m (bb_cv (b 2 s) v)) := ra_fs.rf.sw (Or.inl (by simp; omega))
        exact ⟨vi hm (by decide), hZ _ (hI.oth (hC.item hB (by omega) hm) hf) (hf.hi (by decide))⟩
      · exact absurd q z1
    · rcases bb_lk_pos (b := b) (s := s) (f := f) (i := i) with ⟨z1, z2⟩ | ⟨z1, z2⟩
      · exact absurd z1 q
      · rw [if_pos z2] at hZ
        exact hZ _ hI.met.1 hI.met.2
  · have e : bb_put b s f i v = (b, -2) := by
      unfold bb_put
      exact if_neg hy
    rw [e] at hZ
    have h9 := hZ σ (hI.more (by omega)) ra_up.rf
    simp (disch := omega) only [b_R_put_42, b_R_put_35, b_R_put_14, b_R_put_7, b_R_put_0, e_al0, e_il1, e_il3, e_il4, e_il5, e_il2, e_is5i, e_is5r, e_is5n, e_c, e_b1, e_gr, e_rld, e_ir, e_cs1, e_cv3, e_hd, e_cv2, e_c10, e_c1i, e_c1r, e_sh0, e_sh1, e_sh2, e_sh3, e_sh4, e_tls, e_tln, e_tl0, e_tl1, cl_0, cl_73, ln_73, tg_0_8, q_R_isNoSheet, q_R_isNoForm, q_Sh_findingAt, q_R_find, q_Sh_store, Nat.reduceAdd, true_and, and_true, true_implies, not_true_eq_false, false_implies, not_false_eq_true, imp_self, forall_const, List.append_nil, ra_I, ra_J, ra_pad, true_or, or_true, Nat.reduceEqDiff, ra_bz, eq_self, if_true, if_false, false_and, and_false, Nat.zero_le, List.cons_append, List.nil_append, Nat.reduceLT, Nat.reduceLeDiff, Nat.reduceMul, Nat.reduceSub, n_0, n_1, n_2, n_3, n_4, n_5, n_6, n_7, n_8, n_9, n_10, n_12, n_40, n_48, n_57, n_59, n_72, n_99, n_102, n_103, n_107, n_108, n_192, n_255, n_256, n_999, n_1000, n_104, nI_add, pk_mul, n_cl, n_inT, n_le, n_lt, n_eq, n_m1, n_m1', n_lem1, n_m1le, n_ltm1, n_m1lt, n_lepred, n_shl, fa_or]
    exact ⟨fun _ => h9, fun q => ⟨fun _ => h9, fun q2 => absurd ⟨Classical.not_not.mp q, Classical.not_not.mp q2⟩ hy⟩⟩
def sp_R_get (a : Ab) (b : Bb) (n : Nat) : ra_Sp := ra_f3 0 (fun s f i σ Z => rc_I a b n σ ∧ bb_W b ∧ ∀ σ', rc_I a (bb_get b s f i).1 (n + 1) σ' → ra_up σ σ' → Z (some (.int (bb_get b s f i).2)) σ')
theorem q_R_get {a : Ab} {b : Bb} {n : Nat} {oo : Nat} {s f i : Int32} {σ : ra_St} {Z : ra_R} : sp_R_get a b n [.ref oo, .int s, .int f, .int i] σ Z = (oo = 0 ∧ (rc_I a b n σ ∧ bb_W b ∧ ∀ σ', rc_I a (bb_get b s f i).1 (n + 1) σ' → ra_up σ σ' → Z (some (.int (bb_get b s f i).2)) σ')) := rfl
theorem k_R_get {l : Launch} {X : ra_X} {a : Ab} {b : Bb} {n : Nat} : ra_MOK l X mi_R_get (sp_R_get a b n) := by
  refine g_R_get (c2 := fun as σ Z => ∃ s : Nat, True ∧ sp_Sh_findingAt b s as σ Z) k_R_isNoSheet k_R_isNoForm (ra_MOK_ex (fun s _ => k_Sh_findingAt)) (sp_R_get a b n) ?_
  intro as σ Z _ _ h
  obtain ⟨s, f, i, rfl, hI, hB, hZ⟩ := x_f3 h
  have hC := hI.2.2.2.2.1
  by_cases hy : an_in s 3 ∧ an_in f 2
  · obtain ⟨s, hs, rfl⟩ := an_in_of hy.1 (by decide)
    have e : bb_get b (nI s) f i = if 0 < bb_lk b s f i then (bb_u b 5 0 (bb_lk b s f i), -2147483648) else (b, b 4 (48 * s + i.toNatClampNeg)) := by
      unfold bb_get
      rw [if_pos hy, n_cl (by omega)]
    rw [e] at hZ
    obtain ⟨t1, t2, t3, t4, t5⟩ := tg_q s (by omega)
    simp (disch := omega) only [b_R_get_44, b_R_get_35, b_R_get_17, b_R_get_14, b_R_get_7, b_R_get_0, e_al0, e_il1, e_il3, e_il4, e_il2, e_is4i, e_is4r, e_is4n, e_c, e_b1, e_gr, e_pi, e_ald, e_rld, e_ir, e_cs1, e_cv3, e_hd, e_c10, e_c1i, e_c1r, e_sh0, e_sh1, e_sh2, e_sh3, e_sh4, e_tls, e_tln, e_tl0, e_tl1, cl_0, cl_73, ln_73, tg_0_8, q_R_isNoSheet, q_R_isNoForm, q_Sh_findingAt, Nat.reduceAdd, true_and, and_true, true_implies, not_true_eq_false, false_implies, not_false_eq_true, imp_self, forall_const, List.append_nil, ra_I, ra_J, ra_pad, true_or, or_true, Nat.reduceEqDiff, ra_bz, eq_self, if_true, if_false, false_and, and_false, Nat.zero_le, List.cons_append, List.nil_append, Nat.reduceLT, Nat.reduceLeDiff, Nat.reduceMul, Nat.reduceSub, n_0, n_1, n_2, n_3, n_4, n_5, n_6, n_7, n_8, n_9, n_10, n_12, n_40, n_48, n_57, n_59, n_72, n_99, n_102, n_103, n_107, n_108, n_192, n_255, n_256, n_999, n_1000, n_104, nI_add, pk_mul, n_cl, n_inT, n_le, n_lt, n_eq, n_m1, n_m1', n_lem1, n_m1le, n_ltm1, n_m1lt, n_lepred, n_shl, fa_or, t1, t2, t3, t4, t5, q_Sh_findingAt]
    refine ⟨fun q => absurd hy.1 q, fun _ => ⟨fun q => absurd hy.2 q, fun _ => ⟨s, rfl, by omega, hC, hB, fun q => ?_, fun q => ?_⟩⟩⟩
    · rcases bb_lk_pos (b := b) (s := s) (f := f) (i := i) with ⟨z1, z2⟩ | ⟨z1, z2⟩
      · obtain ⟨-, l1, l2, m, rfl, hm, hm2⟩ := bb_lk_0 hB (by omega) z2
        rw [if_neg z2, n_cl (by omega)] at hZ
        obtain ⟨-, -, p, hp, ep⟩ := hB s (by omega)
        have hmp : m < p := by
          rw [ep, show (1 : Int32) = nI 1 from rfl, n_lepred (by omega) (by omega)] at hm2
          exact hm2
        have h9 := ((hC.2.2 s (by omega)).2 l1).2.2.2 m (by rw [ep, n_cl (by omega)]; exact hmp)
        rw [n_cl (by omega), h9]
        exact ⟨vi hm (by decide), hZ σ (hI.more (by omega)) ra_up.rf⟩
      · exact absurd q z1
    · rcases bb_lk_pos (b := b) (s := s) (f := f) (i := i) with ⟨z1, z2⟩ | ⟨z1, z2⟩
      · exact absurd z1 q
      · rw [if_pos z2] at hZ
        exact hZ _ hI.met.1 hI.met.2
  · have e : bb_get b s f i = (b, -2147483648) := by
      unfold bb_get
      exact if_neg hy
    rw [e] at hZ
    have h9 := hZ σ (hI.more (by omega)) ra_up.rf
    simp (disch := omega) only [b_R_get_44, b_R_get_35, b_R_get_14, b_R_get_7, b_R_get_0, e_al0, e_il1, e_il3, e_il4, e_il2, e_is4i, e_is4r, e_is4n, e_c, e_b1, e_gr, e_pi, e_ald, e_rld, e_ir, e_cs1, e_cv3, e_hd, e_c10, e_c1i, e_c1r, e_sh0, e_sh1, e_sh2, e_sh3, e_sh4, e_tls, e_tln, e_tl0, e_tl1, cl_0, cl_73, ln_73, tg_0_8, q_R_isNoSheet, q_R_isNoForm, q_Sh_findingAt, Nat.reduceAdd, true_and, and_true, true_implies, not_true_eq_false, false_implies, not_false_eq_true, imp_self, forall_const, List.append_nil, ra_I, ra_J, ra_pad, true_or, or_true, Nat.reduceEqDiff, ra_bz, eq_self, if_true, if_false, false_and, and_false, Nat.zero_le, List.cons_append, List.nil_append, Nat.reduceLT, Nat.reduceLeDiff, Nat.reduceMul, Nat.reduceSub, n_0, n_1, n_2, n_3, n_4, n_5, n_6, n_7, n_8, n_9, n_10, n_12, n_40, n_48, n_57, n_59, n_72, n_99, n_102, n_103, n_107, n_108, n_192, n_255, n_256, n_999, n_1000, n_104, nI_add, pk_mul, n_cl, n_inT, n_le, n_lt, n_eq, n_m1, n_m1', n_lem1, n_m1le, n_ltm1, n_m1lt, n_lepred, n_shl, fa_or]
    exact ⟨fun _ => h9, fun q => ⟨fun _ => h9, fun q2 => absurd ⟨Classical.not_not.mp q, Classical.not_not.mp q2⟩ hy⟩⟩
def sp_R_lose (a : Ab) (b : Bb) (n : Nat) : ra_Sp := ra_f1 0 (fun s σ Z => rc_I a b n σ ∧ bb_W b ∧ ∀ σ', rc_I a (bb_lose b s).1 (n + 1) σ' → ra_up σ σ' → Z (some (.int (bb_lose b s).2)) σ')
theorem q_R_lose {a : Ab} {b : Bb} {n : Nat} {oo : Nat} {s : Int32} {σ : ra_St} {Z : ra_R} : sp_R_lose a b n [.ref oo, .int s] σ Z = (oo = 0 ∧ (rc_I a b n σ ∧ bb_W b ∧ ∀ σ', rc_I a (bb_lose b s).1 (n + 1) σ' → ra_up σ σ' → Z (some (.int (bb_lose b s).2)) σ')) := rfl
theorem k_R_lose {l : Launch} {X : ra_X} {a : Ab} {b : Bb} {n : Nat} : ra_MOK l X mi_R_lose (sp_R_lose a b n) := by
  refine g_R_lose k_R_isNoSheet k_R_find (sp_R_lose a b n) ?_
  intro as σ Z _ _ h
  obtain ⟨s, rfl, hI, hB, hZ⟩ := x_f1 h
  have hC := hI.2.2.2.2.1
  by_cases hy : an_in s 3
  · obtain ⟨s, hs, rfl⟩ := an_in_of hy (by decide)
    have e : bb_lose b (nI s) = if b 1 s = 0 then (bb_u b 5 0 1, -11) else (bb_u b 1 s 0, b 3 s) := by
      unfold bb_lose
      rw [if_pos hy, n_cl (by omega)]
    rw [e] at hZ
    obtain ⟨t1, t2, t3, t4, t5⟩ := tg_q s (by omega)
    obtain ⟨c1, c2⟩ := hC.2.2 s (by omega)
    rcases (hB s (by omega)).1 with q0 | q1
    · rw [if_pos q0] at hZ
      simp (disch := omega) only [b_R_lose_22, b_R_lose_10, b_R_lose_7, b_R_lose_0, e_al0, e_il1, e_c, e_b1, e_gi, e_gr, e_pz, e_rld, e_ir, e_cs1, e_cv2, e_hd, e_c10, e_c1i, e_c1r, e_sh0, e_sh1, e_sh2, e_sh3, e_sh4, e_tls, e_tln, e_tl0, e_tl1, cl_0, cl_73, ln_73, tg_0_8, q_R_isNoSheet, q_R_find, Nat.reduceAdd, true_and, and_true, true_implies, not_true_eq_false, false_implies, not_false_eq_true, imp_self, forall_const, List.append_nil, ra_I, ra_J, ra_pad, true_or, or_true, Nat.reduceEqDiff, ra_bz, eq_self, if_true, if_false, false_and, and_false, Nat.zero_le, List.cons_append, List.nil_append, Nat.reduceLT, Nat.reduceLeDiff, Nat.reduceMul, Nat.reduceSub, n_0, n_1, n_2, n_3, n_4, n_5, n_6, n_7, n_8, n_9, n_10, n_12, n_40, n_48, n_57, n_59, n_72, n_99, n_102, n_103, n_107, n_108, n_192, n_255, n_256, n_999, n_1000, n_104, nI_add, pk_mul, n_cl, n_inT, n_le, n_lt, n_eq, n_m1, n_m1', n_lem1, n_m1le, n_ltm1, n_m1lt, n_lepred, n_shl, fa_or, t1, t2, c1 q0]
      exact ⟨fun q => absurd hy q, fun _ => hZ _ hI.met.1 hI.met.2⟩
    · obtain ⟨d1, d2, d3, d4⟩ := c2 q1
      rw [if_neg (by rw [q1]; decide)] at hZ
      simp (disch := omega) only [b_R_lose_28, b_R_lose_22, b_R_lose_10, b_R_lose_7, b_R_lose_0, e_al0, e_il1, e_c, e_b1, e_gi, e_gr, e_pz, e_rld, e_ir, e_cs1, e_cv2, e_hd, e_c10, e_c1i, e_c1r, e_sh0, e_sh1, e_sh2, e_sh3, e_sh4, e_tls, e_tln, e_tl0, e_tl1, cl_0, cl_73, ln_73, tg_0_8, q_R_isNoSheet, q_R_find, Nat.reduceAdd, true_and, and_true, true_implies, not_true_eq_false, false_implies, not_false_eq_true, imp_self, forall_const, List.append_nil, ra_I, ra_J, ra_pad, true_or, or_true, Nat.reduceEqDiff, ra_bz, eq_self, if_true, if_false, false_and, and_false, Nat.zero_le, List.cons_append, List.nil_append, Nat.reduceLT, Nat.reduceLeDiff, Nat.reduceMul, Nat.reduceSub, n_0, n_1, n_2, n_3, n_4, n_5, n_6, n_7, n_8, n_9, n_10, n_12, n_40, n_48, n_57, n_59, n_72, n_99, n_102, n_103, n_107, n_108, n_192, n_255, n_256, n_999, n_1000, n_104, nI_add, pk_mul, n_cl, n_inT, n_le, n_lt, n_eq, n_m1, n_m1', n_lem1, n_m1le, n_ltm1, n_m1lt, n_lepred, n_shl, fa_or, t1, t2, d1, d3, sw_at]
      have hf : ra_fs [72, 74, 75, 76, 77, 78, 79, 80, 81] [(0, 9)] σ (ra_sw σ (74 + 2 * s) 1 (nI 1)) := ra_fs.rf.sw (Or.inl (by simp; omega))
      refine ⟨fun q => absurd hy q, fun _ => hZ _ (hI.oth ⟨fun h hh => ?_, ?_, fun r hr => ?_⟩ hf) (hf.hi (by decide))⟩
      · rw [sw_at, if_neg (by omega)]
        simpa [bb_u] using hC.1 h hh
      · rw [sw_at, if_neg (by omega)]
        simpa [bb_u] using hC.2.1
      · by_cases e : r = s
        · subst e
          refine ⟨fun _ => ?_, fun q => ?_⟩
          · rw [sw_at, if_pos rfl, if_pos rfl]
            rfl
          · simp [bb_u] at q
        · have h9 := hC.2.2 r hr
          have e1 : ra_sw σ (74 + 2 * s) 1 (nI 1) (74 + 2 * r) = σ (74 + 2 * r) := ra_su_ne _ _ (by omega)
          have e2 : ra_sw σ (74 + 2 * s) 1 (nI 1) (75 + 2 * r) = σ (75 + 2 * r) := ra_su_ne _ _ (by omega)
          rw [e1, e2]
          simpa [bb_u, e] using h9
  · have e : bb_lose b s = (b, -2) := by
      unfold bb_lose
      exact if_neg hy
    rw [e] at hZ
    have h9 := hZ σ (hI.more (by omega)) ra_up.rf
    simp (disch := omega) only [b_R_lose_28, b_R_lose_22, b_R_lose_7, b_R_lose_0, e_al0, e_il1, e_c, e_b1, e_gi, e_gr, e_pz, e_rld, e_ir, e_cs1, e_cv2, e_hd, e_c10, e_c1i, e_c1r, e_sh0, e_sh1, e_sh2, e_sh3, e_sh4, e_tls, e_tln, e_tl0, e_tl1, cl_0, cl_73, ln_73, tg_0_8, q_R_isNoSheet, q_R_find, Nat.reduceAdd, true_and, and_true, true_implies, not_true_eq_false, false_implies, not_false_eq_true, imp_self, forall_const, List.append_nil, ra_I, ra_J, ra_pad, true_or, or_true, Nat.reduceEqDiff, ra_bz, eq_self, if_true, if_false, false_and, and_false, Nat.zero_le, List.cons_append, List.nil_append, Nat.reduceLT, Nat.reduceLeDiff, Nat.reduceMul, Nat.reduceSub, n_0, n_1, n_2, n_3, n_4, n_5, n_6, n_7, n_8, n_9, n_10, n_12, n_40, n_48, n_57, n_59, n_72, n_99, n_102, n_103, n_107, n_108, n_192, n_255, n_256, n_999, n_1000, n_104, nI_add, pk_mul, n_cl, n_inT, n_le, n_lt, n_eq, n_m1, n_m1', n_lem1, n_m1le, n_ltm1, n_m1lt, n_lepred, n_shl, fa_or]
    exact ⟨fun _ => h9, fun q => absurd (Classical.not_not.mp q) hy⟩
def sp_Sh_makeNew (s : Nat) : ra_Sp := ra_f2 (74+2*s) (fun f x σ Z => s < 4 ∧ ∃ n : Nat, n ≤ 48 ∧ x = nI n ∧ ∀ σ', σ' (74 + 2 * s) 1 = 0 → σ' (74 + 2 * s) 2 = f → σ' (74 + 2 * s) 3 = x → (∀ i, i < n → σ' (75 + 2 * s) i = 0) → ra_fs [74 + 2 * s, 75 + 2 * s] [] σ σ' → Z none σ')
theorem q_Sh_makeNew {s : Nat} {oo : Nat} {f x : Int32} {σ : ra_St} {Z : ra_R} : sp_Sh_makeNew s [.ref oo, .int f, .int x] σ Z = (oo = (74+2*s) ∧ (s < 4 ∧ ∃ n : Nat, n ≤ 48 ∧ x = nI n ∧ ∀ σ', σ' (74 + 2 * s) 1 = 0 → σ' (74 + 2 * s) 2 = f → σ' (74 + 2 * s) 3 = x → (∀ i, i < n → σ' (75 + 2 * s) i = 0) → ra_fs [74 + 2 * s, 75 + 2 * s] [] σ σ' → Z none σ')) := rfl
def I_Sh_makeNew (s : Nat) (Z : ra_R) (as : List Value) (σ0 : ra_St) (t : Nat) (μ : ra_M) : ra_K := fun L S σ => S = [] ∧ ∃ (f : Int32) (n i : Nat), as = [.ref (74 + 2 * s), .int f, .int (nI n)] ∧ n ≤ 48 ∧ i ≤ n ∧ σ (74 + 2 * s) 1 = 0 ∧ σ (74 + 2 * s) 2 = f ∧ σ (74 + 2 * s) 3 = nI n ∧ (∀ j, j < i → σ (75 + 2 * s) j = 0) ∧ ra_fs [74 + 2 * s, 75 + 2 * s] [] σ0 σ ∧ μ = (n - i, 0, 0) ∧ L = [.ref (74 + 2 * s), .int f, .int (nI n), .int (nI i)]
theorem k_Sh_makeNew {l : Launch} {X : ra_X} {s : Nat} : ra_MOK l X mi_Sh_makeNew (sp_Sh_makeNew s) := by
  refine g_Sh_makeNew (sp_Sh_makeNew s) (I_Sh_makeNew s) ?_ ?_
  · intro as σ Z _ _ h
    obtain ⟨f, _, rfl, hs, n, hn, rfl, hZ⟩ := x_f2 h
    obtain ⟨t1, t2, t3, t4, t5⟩ := tg_q s hs
    simp (disch := omega) only [b_Sh_makeNew_35, b_Sh_makeNew_22, b_Sh_makeNew_17, b_Sh_makeNew_0, e_al0, e_il3, e_il2, e_il1, e_is3i, e_is3r, e_is3n, e_inc3i, e_inc3r, e_inc3n, e_c, e_b2, e_gr, e_pi, e_pz, e_ast, e_vr, Nat.reduceAdd, true_and, and_true, true_implies, not_true_eq_false, false_implies, not_false_eq_true, imp_self, forall_const, List.append_nil, ra_I, ra_J, ra_pad, true_or, or_true, Nat.reduceEqDiff, ra_bz, eq_self, if_true, if_false, false_and, and_false, Nat.zero_le, List.cons_append, List.nil_append, Nat.reduceLT, Nat.reduceLeDiff, Nat.reduceMul, Nat.reduceSub, n_0, n_1, n_2, n_3, n_4, n_5, n_6, n_7, n_8, n_9, n_10, n_12, n_40, n_48, n_57, n_59, n_72, n_99, n_102, n_103, n_107, n_108, n_192, n_255, n_256, n_999, n_1000, n_104, nI_add, pk_mul, n_cl, n_inT, n_le, n_lt, n_eq, n_m1, n_m1', n_lem1, n_m1le, n_ltm1, n_m1lt, n_lepred, n_shl, fa_or, t2]
    refine ⟨_, rfl, f, n, 0, rfl, hn, by omega, ?_, ?_, ?_, fun j hj => by omega, ((ra_fs.rf.sw (Or.inl (by simp))).sw (Or.inl (by simp))).sw (Or.inl (by simp)), rfl, rfl⟩
    · simp [sw_at]; rfl
    · simp [sw_at]
    · simp [sw_at]
  · intro as σ0 Z h0 μ L S σ hI
    obtain ⟨rfl, f, n, i, rfl, hn, hi, h1, h2, h3, hq, hf, rfl, rfl⟩ := hI
    obtain ⟨_, _, e, hs, n', hn', e2, hZ⟩ := x_f2 h0
    cases e
    rw [n_eq (by omega) (by omega)] at e2
    subst e2
    obtain ⟨t1, t2, t3, t4, t5⟩ := tg_q s hs
    simp (disch := omega) only [b_Sh_makeNew_35, b_Sh_makeNew_22, b_Sh_makeNew_17, b_Sh_makeNew_0, e_al0, e_il3, e_il2, e_il1, e_is3i, e_is3r, e_is3n, e_inc3i, e_inc3r, e_inc3n, e_c, e_b2, e_gr, e_pi, e_pz, e_ast, e_vr, Nat.reduceAdd, true_and, and_true, true_implies, not_true_eq_false, false_implies, not_false_eq_true, imp_self, forall_const, List.append_nil, ra_I, ra_J, ra_pad, true_or, or_true, Nat.reduceEqDiff, ra_bz, eq_self, if_true, if_false, false_and, and_false, Nat.zero_le, List.cons_append, List.nil_append, Nat.reduceLT, Nat.reduceLeDiff, Nat.reduceMul, Nat.reduceSub, n_0, n_1, n_2, n_3, n_4, n_5, n_6, n_7, n_8, n_9, n_10, n_12, n_40, n_48, n_57, n_59, n_72, n_99, n_102, n_103, n_107, n_108, n_192, n_255, n_256, n_999, n_1000, n_104, nI_add, pk_mul, n_cl, n_inT, n_le, n_lt, n_eq, n_m1, n_m1', n_lem1, n_m1le, n_ltm1, n_m1lt, n_lepred, n_shl, fa_or, t2, t3, t4, t5]
    refine ⟨fun q => hZ σ h1 h2 h3 (fun j hj => hq j (by omega)) hf, fun q => ?_⟩
    refine ⟨vi (by omega) (by decide), (n - (i + 1), 0, 0), lx1 (by omega), rfl, f, n, i + 1, rfl, hn, by omega, ?_, ?_, ?_, fun j hj => ?_, hf.sw (Or.inl (by simp)), rfl, rfl⟩
    · rw [sw_at, if_neg (by omega)]; exact h1
    · rw [sw_at, if_neg (by omega)]; exact h2
    · rw [sw_at, if_neg (by omega)]; exact h3
    · rw [sw_at, if_pos rfl]
      split
      · rfl
      · exact hq j (by omega)
def sp_R_sheet (a : Ab) (b : Bb) (n : Nat) : ra_Sp := ra_f3 0 (fun s f x σ Z => rc_I a b n σ ∧ bb_W b ∧ ∀ σ', rc_I a (bb_sheet b s f x).1 (n + 1) σ' → ra_up σ σ' → Z (some (.int (bb_sheet b s f x).2)) σ')
theorem q_R_sheet {a : Ab} {b : Bb} {n : Nat} {oo : Nat} {s f x : Int32} {σ : ra_St} {Z : ra_R} : sp_R_sheet a b n [.ref oo, .int s, .int f, .int x] σ Z = (oo = 0 ∧ (rc_I a b n σ ∧ bb_W b ∧ ∀ σ', rc_I a (bb_sheet b s f x).1 (n + 1) σ' → ra_up σ σ' → Z (some (.int (bb_sheet b s f x).2)) σ')) := rfl
theorem k_R_sheet {l : Launch} {X : ra_X} {a : Ab} {b : Bb} {n : Nat} : ra_MOK l X mi_R_sheet (sp_R_sheet a b n) := by
  refine g_R_sheet (c3 := fun as σ Z => ∃ s : Nat, True ∧ sp_Sh_makeNew s as σ Z) k_R_isNoSheet k_R_isNoForm k_R_find (ra_MOK_ex (fun s _ => k_Sh_makeNew)) (sp_R_sheet a b n) ?_
  intro as σ Z _ _ h
  obtain ⟨s, f, x, rfl, hI, hB, hZ⟩ := x_f3 h
  have hC := hI.2.2.2.2.1
  by_cases hy : an_in s 3 ∧ an_in f 2 ∧ x ≤ 48
  · obtain ⟨s, hs, rfl⟩ := an_in_of hy.1 (by decide)
    have e : bb_sheet b (nI s) f x = if x < 0 then (bb_u b 5 0 5, -15) else (bb_new b s f x, x) := by
      unfold bb_sheet
      rw [if_pos hy, n_cl (by omega)]
    rw [e] at hZ
    obtain ⟨t1, t2, t3, t4, t5⟩ := tg_q s (by omega)
    by_cases hx : x < 0
    · rw [if_pos hx] at hZ
      have h9 := hZ _ hI.met.1 hI.met.2
      simp (disch := omega) only [b_R_sheet_27, b_R_sheet_23, b_R_sheet_20, b_R_sheet_14, b_R_sheet_7, b_R_sheet_0, e_al0, e_il1, e_il2, e_il3, e_c, e_b1, e_b2, e_gr, e_rld, e_ir, e_cs1, e_cv3, e_hd, e_cv2, e_c10, e_c1i, e_c1r, e_sh0, e_sh1, e_sh2, e_sh3, e_sh4, e_tls, e_tln, e_tl0, e_tl1, cl_0, cl_73, ln_73, tg_0_8, q_R_isNoSheet, q_R_isNoForm, q_R_find, q_Sh_makeNew, Nat.reduceAdd, true_and, and_true, true_implies, not_true_eq_false, false_implies, not_false_eq_true, imp_self, forall_const, List.append_nil, ra_I, ra_J, ra_pad, true_or, or_true, Nat.reduceEqDiff, ra_bz, eq_self, if_true, if_false, false_and, and_false, Nat.zero_le, List.cons_append, List.nil_append, Nat.reduceLT, Nat.reduceLeDiff, Nat.reduceMul, Nat.reduceSub, n_0, n_1, n_2, n_3, n_4, n_5, n_6, n_7, n_8, n_9, n_10, n_12, n_40, n_48, n_57, n_59, n_72, n_99, n_102, n_103, n_107, n_108, n_192, n_255, n_256, n_999, n_1000, n_104, nI_add, pk_mul, n_cl, n_inT, n_le, n_lt, n_eq, n_m1, n_m1', n_lem1, n_m1le, n_ltm1, n_m1lt, n_lepred, n_shl, fa_or]
      exact ⟨fun q => absurd hy.1 q, fun _ => ⟨fun q => absurd hy.2.1 q, fun _ => ⟨fun _ => ⟨fun q => absurd q (fa_of_lt hx).2.1, fun _ => h9⟩, fun q => absurd hy.2.2 q⟩⟩⟩
    · rw [if_neg hx] at hZ
      obtain ⟨m, hm, rfl⟩ := nI_of hx
      have hm48 : m ≤ 48 := by
        have := hy.2.2
        rw [n_48, n_le hm (by omega)] at this
        exact this
      simp (disch := omega) only [b_R_sheet_33, b_R_sheet_27, b_R_sheet_23, b_R_sheet_20, b_R_sheet_14, b_R_sheet_7, b_R_sheet_0, e_al0, e_il1, e_il2, e_il3, e_c, e_b1, e_b2, e_gr, e_rld, e_ir, e_cs1, e_cv3, e_hd, e_cv2, e_c10, e_c1i, e_c1r, e_sh0, e_sh1, e_sh2, e_sh3, e_sh4, e_tls, e_tln, e_tl0, e_tl1, cl_0, cl_73, ln_73, tg_0_8, q_R_isNoSheet, q_R_isNoForm, q_R_find, q_Sh_makeNew, Nat.reduceAdd, true_and, and_true, true_implies, not_true_eq_false, false_implies, not_false_eq_true, imp_self, forall_const, List.append_nil, ra_I, ra_J, ra_pad, true_or, or_true, Nat.reduceEqDiff, ra_bz, eq_self, if_true, if_false, false_and, and_false, Nat.zero_le, List.cons_append, List.nil_append, Nat.reduceLT, Nat.reduceLeDiff, Nat.reduceMul, Nat.reduceSub, n_0, n_1, n_2, n_3, n_4, n_5, n_6, n_7, n_8, n_9, n_10, n_12, n_40, n_48, n_57, n_59, n_72, n_99, n_102, n_103, n_107, n_108, n_192, n_255, n_256, n_999, n_1000, n_104, nI_add, pk_mul, n_cl, n_inT, n_le, n_lt, n_eq, n_m1, n_m1', n_lem1, n_m1le, n_ltm1, n_m1lt, n_lepred, n_shl, fa_or, t1, t2, q_Sh_makeNew]
      refine ⟨fun q => absurd hy.1 q, fun _ => ⟨fun q => absurd hy.2.1 q, fun _ => ⟨fun _ => ⟨s, rfl, by omega, m, hm48, rfl, fun σ' g1 g2 g3 g4 g5 => ?_⟩, fun q => absurd hm48 q⟩⟩⟩
      have hf : ra_fs [72, 74, 75, 76, 77, 78, 79, 80, 81] [(0, 9)] σ σ' := g5.mono (by simp; omega) (by simp)
      have ec : ∀ c, c ≠ 74 + 2 * s → c ≠ 75 + 2 * s → σ' c = σ c := fun c y1 y2 => funext (fun j => g5 c j (by simp [y1, y2]) (by simp))
      refine hZ σ' (hI.oth ⟨fun h hh => ?_, ?_, fun r hr => ?_⟩ hf) (hf.hi (by decide))
      · rw [ec 72 (by omega) (by omega)]
        simpa [bb_new] using hC.1 h hh
      · rw [ec 0 (by omega) (by omega)]
        simpa [bb_new] using hC.2.1
      · by_cases e : r = s
        · subst e
          refine ⟨fun q => ?_, fun _ => ⟨g1, ?_, ?_, fun i hi => ?_⟩⟩
          · simp [bb_new] at q
          · simpa [bb_new] using g2
          · simpa [bb_new] using g3
          · have hi2 : i < m := by
              simp [bb_new, n_cl hm] at hi
              exact hi
            rw [g4 i hi2]
            simp only [bb_new]
            rw [if_neg (by omega), if_neg (by omega), if_neg (by omega), if_pos ⟨trivial, by omega, by omega⟩]
            rfl
        · obtain ⟨c1, c2⟩ := hC.2.2 r hr
          rw [ec (74 + 2 * r) (by omega) (by omega), ec (75 + 2 * r) (by omega) (by omega)]
          refine ⟨fun q => c1 (by simpa [bb_new, e] using q), fun q => ?_⟩
          obtain ⟨d1, d2, d3, d4⟩ := c2 (by simpa [bb_new, e] using q)
          refine ⟨d1, by simpa [bb_new, e] using d2, by simpa [bb_new, e] using d3, fun i hi => ?_⟩
          have hi2 : i < (b 3 r).toNatClampNeg := by simpa [bb_new, e] using hi
          obtain ⟨-, -, p, hp, ep⟩ := hB r hr
          have hi3 := hi2
          rw [ep, n_cl (by omega)] at hi3
          rw [d4 i hi2]
          simp only [bb_new]
          rw [if_neg (by omega), if_neg (by omega), if_neg (by omega), if_neg (by omega)]
  · have e : bb_sheet b s f x = (b, -2) := by
      unfold bb_sheet
      exact if_neg hy
    rw [e] at hZ
    have h9 := hZ σ (hI.more (by omega)) ra_up.rf
    simp (disch := omega) only [b_R_sheet_33, b_R_sheet_27, b_R_sheet_20, b_R_sheet_14, b_R_sheet_7, b_R_sheet_0, e_al0, e_il1, e_il2, e_il3, e_c, e_b1, e_b2, e_gr, e_rld, e_ir, e_cs1, e_cv3, e_hd, e_cv2, e_c10, e_c1i, e_c1r, e_sh0, e_sh1, e_sh2, e_sh3, e_sh4, e_tls, e_tln, e_tl0, e_tl1, cl_0, cl_73, ln_73, tg_0_8, q_R_isNoSheet, q_R_isNoForm, q_R_find, q_Sh_makeNew, Nat.reduceAdd, true_and, and_true, true_implies, not_true_eq_false, false_implies, not_false_eq_true, imp_self, forall_const, List.append_nil, ra_I, ra_J, ra_pad, true_or, or_true, Nat.reduceEqDiff, ra_bz, eq_self, if_true, if_false, false_and, and_false, Nat.zero_le, List.cons_append, List.nil_append, Nat.reduceLT, Nat.reduceLeDiff, Nat.reduceMul, Nat.reduceSub, n_0, n_1, n_2, n_3, n_4, n_5, n_6, n_7, n_8, n_9, n_10, n_12, n_40, n_48, n_57, n_59, n_72, n_99, n_102, n_103, n_107, n_108, n_192, n_255, n_256, n_999, n_1000, n_104, nI_add, pk_mul, n_cl, n_inT, n_le, n_lt, n_eq, n_m1, n_m1', n_lem1, n_m1le, n_ltm1, n_m1lt, n_lepred, n_shl, fa_or]
    exact ⟨fun _ => h9, fun q => ⟨fun _ => h9, fun q2 => ⟨fun q3 => absurd ⟨Classical.not_not.mp q, Classical.not_not.mp q2, q3⟩ hy, fun _ => h9⟩⟩⟩
