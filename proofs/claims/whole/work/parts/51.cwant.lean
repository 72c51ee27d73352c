/-! the class: changes -/
def sp_Ex_wouldChange (a : Ab) : ra_Sp := fun as σ Z => match as with
  | [.ref o, .int x, .int y, .ref c] => o = 41 ∧ (c = 9 ∨ c = 51) ∧ rc_X a σ ∧ ∃ (f : Nat → Nat) (i j : Nat), (∀ h, h < ab_hc a → σ c h = nI (f h) ∧ f h < 8) ∧ x = nI i ∧ y = nI j ∧ i < ab_hc a ∧ j < ab_hc a ∧ ra_bz (mk_want a f i j) Z σ
  | _ => False
theorem q_Ex_wouldChange {a : Ab} {o c : Nat} {x y : Int32} {σ : ra_St} {Z : ra_R} : sp_Ex_wouldChange a [.ref o, .int x, .int y, .ref c] σ Z = (o = 41 ∧ (c = 9 ∨ c = 51) ∧ rc_X a σ ∧ ∃ (f : Nat → Nat) (i j : Nat), (∀ h, h < ab_hc a → σ c h = nI (f h) ∧ f h < 8) ∧ x = nI i ∧ y = nI j ∧ i < ab_hc a ∧ j < ab_hc a ∧ ra_bz (mk_want a f i j) Z σ) := rfl
theorem k_Ex_wouldChange {l : Launch} {X : ra_X} {a : Ab} (hW : ab_W a) : ra_MOK l X mi_Ex_wouldChange (sp_Ex_wouldChange a) := by
  have h8 := ab_hc_8 a
  refine g_Ex_wouldChange (sp_Ex_wouldChange a) ?_
  intro as σ Z _ _ h
  unfold sp_Ex_wouldChange at h
  split at h
  · next o x y c =>
    obtain ⟨rfl, hc, hX, f, i, j, hf, rfl, rfl, hi, hj, hZ⟩ := h
    obtain ⟨e1, b1⟩ := hf i hi
    obtain ⟨e2, b2⟩ := hf j hj
    obtain ⟨t1, t2, t3⟩ := tg_w i (by omega)
    obtain ⟨u1, u2, u3⟩ := tg_w j (by omega)
    have w := hW.2.2.2.2.2.2.2.2.2.1
    have x1 := hX i (f i) (by omega) b1
    have x2 := hX i (f j) (by omega) b2
    have x3 := hX j (f i) (by omega) b1
    have x4 := hX j (f j) (by omega) b2
    have w1 := w (8 * i + f i)
    have w2 := w (8 * i + f j)
    have w3 := w (8 * j + f i)
    have w4 := w (8 * j + f j)
    unfold mk_want mk_w at hZ
    rcases hc with rfl | rfl
    all_goals
      simp (disch := omega) only [b_Ex_wouldChange_51, b_Ex_wouldChange_50, b_Ex_wouldChange_46, b_Ex_wouldChange_23, b_Ex_wouldChange_0, e_al0, e_il2, e_al3, e_il1, e_c, e_b2, e_gr, e_ald, e_rld, e_zr, cl_41, cl_42, ln_42, tg_41_1, Nat.reduceAdd, true_and, and_true, true_implies, not_true_eq_false, false_implies, not_false_eq_true, imp_self, forall_const, List.append_nil, ra_I, ra_J, ra_pad, true_or, or_true, Nat.reduceEqDiff, ra_bz, eq_self, if_true, if_false, false_and, and_false, Nat.zero_le, List.cons_append, List.nil_append, Nat.reduceLT, Nat.reduceLeDiff, Nat.reduceMul, Nat.reduceSub, n_0, n_1, n_2, n_3, n_4, n_5, n_6, n_7, n_8, n_9, n_10, n_12, n_40, n_48, n_57, n_59, n_72, n_99, n_102, n_103, n_107, n_108, n_192, n_255, n_256, n_999, n_1000, n_104, nI_add, pk_mul, n_cl, n_inT, n_le, n_lt, n_eq, n_m1, n_m1', n_lem1, n_m1le, n_ltm1, n_m1lt, n_lepred, n_shl, fa_or, cl_9, ln_9, cl_51, ln_51, t1, t2, t3, u1, u2, u3, e1, e2, x1, x2, x3, x4]
      exact ⟨fun q => hZ.2 (by omega), fun q => ⟨fun q2 => hZ.2 (by omega), fun q2 => hZ.1 (by omega)⟩⟩
  · exact h.elim
def sp_R_want (a : Ab) (b : Bb) (n : Nat) : ra_Sp := ra_f2 0 (fun x y σ Z => rc_I a b n σ ∧ Z (some (.int (an_want a x y))) σ)
theorem q_R_want {a : Ab} {b : Bb} {n : Nat} {oo : Nat} {x y : Int32} {σ : ra_St} {Z : ra_R} : sp_R_want a b n [.ref oo, .int x, .int y] σ Z = (oo = 0 ∧ (rc_I a b n σ ∧ Z (some (.int (an_want a x y))) σ)) := rfl
theorem k_R_want {l : Launch} {X : ra_X} {a : Ab} {b : Bb} {n : Nat} (hW : ab_W a) : ra_MOK l X mi_R_want (sp_R_want a b n) := by
  have h8 := ab_hc_8 a
  refine g_R_want (k_R_isNoHouse (a := a)) (k_Ex_wouldChange hW) (sp_R_want a b n) ?_
  intro as σ Z _ _ h
  obtain ⟨x, y, rfl, hI, hZ⟩ := x_f2 h
  by_cases hy : an_hs a x ∧ an_hs a y ∧ ¬ x = y
  · obtain ⟨i, hi, rfl⟩ := an_hs_of hy.1
    obtain ⟨j, hj, rfl⟩ := an_hs_of hy.2.1
    simp (disch := omega) only [b_R_want_48, b_R_want_47, b_R_want_43, b_R_want_24, b_R_want_21, b_R_want_16, b_R_want_8, b_R_want_0, e_al0, e_il1, e_il2, e_c, e_b1, e_b2, e_gr, e_ir, e_cv4, e_hd, e_cv2, e_c10, e_c1i, e_c1r, e_sh0, e_sh1, e_sh2, e_sh3, e_sh4, e_tls, e_tln, e_tl0, e_tl1, cl_0, cl_1, cl_9, ln_9, cl_41, tg_0_0, tg_0_4, tg_1_5, q_R_isNoHouse, Nat.reduceAdd, true_and, and_true, true_implies, not_true_eq_false, false_implies, not_false_eq_true, imp_self, forall_const, List.append_nil, ra_I, ra_J, ra_pad, true_or, or_true, Nat.reduceEqDiff, ra_bz, eq_self, if_true, if_false, false_and, and_false, Nat.zero_le, List.cons_append, List.nil_append, Nat.reduceLT, Nat.reduceLeDiff, Nat.reduceMul, Nat.reduceSub, n_0, n_1, n_2, n_3, n_4, n_5, n_6, n_7, n_8, n_9, n_10, n_12, n_40, n_48, n_57, n_59, n_72, n_99, n_102, n_103, n_107, n_108, n_192, n_255, n_256, n_999, n_1000, n_104, nI_add, pk_mul, n_cl, n_inT, n_le, n_lt, n_eq, n_m1, n_m1', n_lem1, n_m1le, n_ltm1, n_m1lt, n_lepred, n_shl, fa_or, q_Ex_wouldChange]
    refine ⟨hI.1, fun q => absurd hy.1 q, fun _ => ⟨hI.1, fun q => absurd hy.2.1 q, fun _ => ⟨fun q => absurd (by rw [q]) hy.2.2, fun _ => ⟨hI.2.2.1, ab_ow a, i, j, fun h hh => ⟨(hI.1.2.2.2.2 h hh).1, by have := ab_ow_lt hh; omega⟩, rfl, rfl, hi, hj, fun q => ?_, fun q => ?_⟩⟩⟩⟩
    · rw [an_want_yes hy (by rw [n_cl (by omega), n_cl (by omega)]; exact q)] at hZ
      exact hZ
    · rw [an_want_not hy (by rw [n_cl (by omega), n_cl (by omega)]; exact q)] at hZ
      exact hZ
  · rw [an_want_no hy] at hZ
    simp (disch := omega) only [b_R_want_48, b_R_want_47, b_R_want_43, b_R_want_21, b_R_want_16, b_R_want_8, b_R_want_0, e_al0, e_il1, e_il2, e_c, e_b1, e_b2, e_gr, e_ir, e_cv4, e_hd, e_cv2, e_c10, e_c1i, e_c1r, e_sh0, e_sh1, e_sh2, e_sh3, e_sh4, e_tls, e_tln, e_tl0, e_tl1, cl_0, cl_1, cl_9, ln_9, cl_41, tg_0_0, tg_0_4, tg_1_5, q_R_isNoHouse, Nat.reduceAdd, true_and, and_true, true_implies, not_true_eq_false, false_implies, not_false_eq_true, imp_self, forall_const, List.append_nil, ra_I, ra_J, ra_pad, true_or, or_true, Nat.reduceEqDiff, ra_bz, eq_self, if_true, if_false, false_and, and_false, Nat.zero_le, List.cons_append, List.nil_append, Nat.reduceLT, Nat.reduceLeDiff, Nat.reduceMul, Nat.reduceSub, n_0, n_1, n_2, n_3, n_4, n_5, n_6, n_7, n_8, n_9, n_10, n_12, n_40, n_48, n_57, n_59, n_72, n_99, n_102, n_103, n_107, n_108, n_192, n_255, n_256, n_999, n_1000, n_104, nI_add, pk_mul, n_cl, n_inT, n_le, n_lt, n_eq, n_m1, n_m1', n_lem1, n_m1le, n_ltm1, n_m1lt, n_lepred, n_shl, fa_or]
    refine ⟨hI.1, fun _ => hZ, fun q => ⟨hI.1, fun _ => hZ, fun q2 => ⟨fun _ => hZ, fun q3 => absurd ⟨Classical.not_not.mp q, Classical.not_not.mp q2, q3⟩ hy⟩⟩⟩
