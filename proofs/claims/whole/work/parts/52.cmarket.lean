def sp_Ex_changeFirstPair (a : Ab) : ra_Sp := ra_f0 41 (fun σ Z => rc_V a σ ∧ rc_X a σ ∧ ∃ f : Nat → Nat, (∀ h, h < ab_hc a → σ 51 h = nI (f h) ∧ f h < 8) ∧ (fa_first (mk_p a f) 64 = 64 → Z (some (.int 0)) σ) ∧ ∀ p q, p < q → q < ab_hc a → fa_first (mk_p a f) 64 = 8 * p + q → mk_want a f p q → Z (some (.int 1)) (ra_sw (ra_sw σ 51 p (nI (f q))) 51 q (nI (f p))))
theorem q_Ex_changeFirstPair {a : Ab} {oo : Nat} {σ : ra_St} {Z : ra_R} : sp_Ex_changeFirstPair a [.ref oo] σ Z = (oo = 41 ∧ (rc_V a σ ∧ rc_X a σ ∧ ∃ f : Nat → Nat, (∀ h, h < ab_hc a → σ 51 h = nI (f h) ∧ f h < 8) ∧ (fa_first (mk_p a f) 64 = 64 → Z (some (.int 0)) σ) ∧ ∀ p q, p < q → q < ab_hc a → fa_first (mk_p a f) 64 = 8 * p + q → mk_want a f p q → Z (some (.int 1)) (ra_sw (ra_sw σ 51 p (nI (f q))) 51 q (nI (f p))))) := rfl
def I_Ex_changeFirstPair (a : Ab) (Z : ra_R) (as : List Value) (σ0 : ra_St) (t : Nat) (μ : ra_M) : ra_K := fun L S σ => S = [] ∧ σ = σ0 ∧ as = [.ref 41] ∧ ∃ (f : Nat → Nat) (p q : Nat) (u v : Value), (∀ h, h < ab_hc a → σ 51 h = nI (f h) ∧ f h < 8) ∧ (fa_first (mk_p a f) 64 = 64 → Z (some (.int 0)) σ) ∧ (∀ p q, p < q → q < ab_hc a → fa_first (mk_p a f) 64 = 8 * p + q → mk_want a f p q → Z (some (.int 1)) (ra_sw (ra_sw σ 51 p (nI (f q))) 51 q (nI (f p)))) ∧ p ≤ ab_hc a ∧
  match t with
  | 2 => (∀ j, j < 8 * p → mk_p a f j = false) ∧ μ = (ab_hc a - p, 1, 0) ∧ L = [.ref 41, .int (nI p), u, v]
  | _ => p < q ∧ p < ab_hc a ∧ q ≤ ab_hc a ∧ (∀ j, j < 8 * p + q → mk_p a f j = false) ∧ μ = (ab_hc a - p, 0, ab_hc a - q) ∧ L = [.ref 41, .int (nI p), .int (nI q), v]
theorem k_Ex_changeFirstPair {l : Launch} {X : ra_X} {a : Ab} (hW : ab_W a) : ra_MOK l X mi_Ex_changeFirstPair (sp_Ex_changeFirstPair a) := by
  have h8 := ab_hc_8 a
  refine g_Ex_changeFirstPair (k_Ex_wouldChange hW) (sp_Ex_changeFirstPair a) (I_Ex_changeFirstPair a) ?_ ?_ ?_
  · intro as σ Z _ _ h
    obtain ⟨rfl, hV, hX, f, hf, z1, z2⟩ := x_f0 h
    simp (disch := omega) only [b_Ex_changeFirstPair_81, b_Ex_changeFirstPair_75, b_Ex_changeFirstPair_69, b_Ex_changeFirstPair_41, b_Ex_changeFirstPair_28, b_Ex_changeFirstPair_17, b_Ex_changeFirstPair_13, b_Ex_changeFirstPair_2, b_Ex_changeFirstPair_0, e_al0, e_il1, e_il2, e_il3, e_is3i, e_is3r, e_is3n, e_is2i, e_is2r, e_is2n, e_is1i, e_is1r, e_is1n, e_inc1i, e_inc1r, e_inc1n, e_inc2i, e_inc2r, e_inc2n, e_c, e_i2, e_b1, e_b2, e_gi, e_gr, e_ald, e_ast, e_zr, e_cv4, e_hd, e_c10, e_c1i, e_c1r, e_sh0, e_sh1, e_sh2, e_sh3, e_sh4, e_tls, e_tln, e_tl0, e_tl1, cl_1, cl_41, cl_51, ln_51, tg_41_0, tg_41_2, Nat.reduceAdd, true_and, and_true, true_implies, not_true_eq_false, false_implies, not_false_eq_true, imp_self, forall_const, List.append_nil, ra_I, ra_J, ra_pad, true_or, or_true, Nat.reduceEqDiff, ra_bz, eq_self, if_true, if_false, false_and, and_false, Nat.zero_le, List.cons_append, List.nil_append, Nat.reduceLT, Nat.reduceLeDiff, Nat.reduceMul, Nat.reduceSub, n_0, n_1, n_2, n_3, n_4, n_5, n_6, n_7, n_8, n_9, n_10, n_12, n_40, n_48, n_57, n_59, n_72, n_99, n_102, n_103, n_107, n_108, n_192, n_255, n_256, n_999, n_1000, n_104, nI_add, pk_mul, n_cl, n_inT, n_le, n_lt, n_eq, n_m1, n_m1', n_lem1, n_m1le, n_ltm1, n_m1lt, n_lepred, n_shl, fa_or]
    exact ⟨_, rfl, rfl, rfl, f, 0, 0, _, _, hf, z1, z2, by omega, fun j hj => by omega, rfl, rfl⟩
  · intro as σ0 Z h0 μ L S σ hI
    obtain ⟨rfl, rfl, rfl, f, p, q, u, v, hf, z1, z2, hp, hg, rfl, rfl⟩ := hI
    obtain ⟨-, hV, hX, -⟩ := x_f0 h0
    simp (disch := omega) only [b_Ex_changeFirstPair_81, b_Ex_changeFirstPair_75, b_Ex_changeFirstPair_69, b_Ex_changeFirstPair_41, b_Ex_changeFirstPair_28, b_Ex_changeFirstPair_17, b_Ex_changeFirstPair_13, b_Ex_changeFirstPair_2, b_Ex_changeFirstPair_0, e_al0, e_il1, e_il2, e_il3, e_is3i, e_is3r, e_is3n, e_is2i, e_is2r, e_is2n, e_is1i, e_is1r, e_is1n, e_inc1i, e_inc1r, e_inc1n, e_inc2i, e_inc2r, e_inc2n, e_c, e_i2, e_b1, e_b2, e_gi, e_gr, e_ald, e_ast, e_zr, e_cv4, e_hd, e_c10, e_c1i, e_c1r, e_sh0, e_sh1, e_sh2, e_sh3, e_sh4, e_tls, e_tln, e_tl0, e_tl1, cl_1, cl_41, cl_51, ln_51, tg_41_0, tg_41_2, Nat.reduceAdd, true_and, and_true, true_implies, not_true_eq_false, false_implies, not_false_eq_true, imp_self, forall_const, List.append_nil, ra_I, ra_J, ra_pad, true_or, or_true, Nat.reduceEqDiff, ra_bz, eq_self, if_true, if_false, false_and, and_false, Nat.zero_le, List.cons_append, List.nil_append, Nat.reduceLT, Nat.reduceLeDiff, Nat.reduceMul, Nat.reduceSub, n_0, n_1, n_2, n_3, n_4, n_5, n_6, n_7, n_8, n_9, n_10, n_12, n_40, n_48, n_57, n_59, n_72, n_99, n_102, n_103, n_107, n_108, n_192, n_255, n_256, n_999, n_1000, n_104, nI_add, pk_mul, n_cl, n_inT, n_le, n_lt, n_eq, n_m1, n_m1', n_lem1, n_m1le, n_ltm1, n_m1lt, n_lepred, n_shl, fa_or, hV.2.1.1]
    refine ⟨fun y => z1 (fa_first_all (fun j hj => ?_)), fun y => ⟨(ab_hc a - p, 0, ab_hc a - (p + 1)), lx2 (by omega), rfl, rfl, rfl, f, p, p + 1, u, v, hf, z1, z2, hp, by omega, by omega, by omega, fun j hj => ?_, rfl, rfl⟩⟩
    · by_cases y2 : j < 8 * p
      · exact hg j y2
      · exact mk_p_no (fun y3 => by omega)
    · by_cases y2 : j < 8 * p
      · exact hg j y2
      · exact mk_p_no (fun y3 => by omega)
  · intro as σ0 Z h0 μ L S σ hI
    obtain ⟨rfl, rfl, rfl, f, p, q, u, v, hf, z1, z2, hp, hpq, hp2, hq, hg, rfl, rfl⟩ := hI
    obtain ⟨-, hV, hX, -⟩ := x_f0 h0
    by_cases hlt : q < ab_hc a
    · obtain ⟨e1, b1⟩ := hf p hp2
      obtain ⟨e2, b2⟩ := hf q hlt
      simp (disch := omega) only [b_Ex_changeFirstPair_81, b_Ex_changeFirstPair_69, b_Ex_changeFirstPair_41, b_Ex_changeFirstPair_28, b_Ex_changeFirstPair_17, b_Ex_changeFirstPair_13, b_Ex_changeFirstPair_2, b_Ex_changeFirstPair_0, e_al0, e_il1, e_il2, e_il3, e_is3i, e_is3r, e_is3n, e_is2i, e_is2r, e_is2n, e_is1i, e_is1r, e_is1n, e_inc1i, e_inc1r, e_inc1n, e_inc2i, e_inc2r, e_inc2n, e_c, e_i2, e_b1, e_b2, e_gi, e_gr, e_ald, e_ast, e_zr, e_cv4, e_hd, e_c10, e_c1i, e_c1r, e_sh0, e_sh1, e_sh2, e_sh3, e_sh4, e_tls, e_tln, e_tl0, e_tl1, cl_1, cl_41, cl_51, ln_51, tg_41_0, tg_41_2, Nat.reduceAdd, true_and, and_true, true_implies, not_true_eq_false, false_implies, not_false_eq_true, imp_self, forall_const, List.append_nil, ra_I, ra_J, ra_pad, true_or, or_true, Nat.reduceEqDiff, ra_bz, eq_self, if_true, if_false, false_and, and_false, Nat.zero_le, List.cons_append, List.nil_append, Nat.reduceLT, Nat.reduceLeDiff, Nat.reduceMul, Nat.reduceSub, n_0, n_1, n_2, n_3, n_4, n_5, n_6, n_7, n_8, n_9, n_10, n_12, n_40, n_48, n_57, n_59, n_72, n_99, n_102, n_103, n_107, n_108, n_192, n_255, n_256, n_999, n_1000, n_104, nI_add, pk_mul, n_cl, n_inT, n_le, n_lt, n_eq, n_m1, n_m1', n_lem1, n_m1le, n_ltm1, n_m1lt, n_lepred, n_shl, fa_or, hV.2.1.1, q_Ex_wouldChange, e1, e2, sw_at]
      refine ⟨fun y => by omega, fun _ => ⟨hX, f, p, q, hf, rfl, rfl, hp2, hlt, fun y => ?_, fun y => ⟨(ab_hc a - p, 0, ab_hc a - (q + 1)), lx3 (by omega), rfl, rfl, rfl, f, p, q + 1, u, v, hf, z1, z2, hp, by omega, hp2, by omega, fun j hj => ?_, rfl, rfl⟩⟩⟩
      · refine z2 p q hpq hlt (fa_first_eq hg (by omega) (mk_p_iff.mpr ?_)) y
        rw [show (8 * p + q) / 8 = p by omega, show (8 * p + q) % 8 = q by omega]
        exact ⟨hpq, hlt, y⟩
      · rcases (show j < 8 * p + q ∨ j = 8 * p + q by omega) with y2 | rfl
        · exact hg j y2
        · refine mk_p_no (fun y3 => y ?_)
          rw [show (8 * p + q) / 8 = p by omega, show (8 * p + q) % 8 = q by omega] at y3
          exact y3.2.2
    · simp (disch := omega) only [b_Ex_changeFirstPair_81, b_Ex_changeFirstPair_75, b_Ex_changeFirstPair_69, b_Ex_changeFirstPair_41, b_Ex_changeFirstPair_17, b_Ex_changeFirstPair_13, b_Ex_changeFirstPair_2, b_Ex_changeFirstPair_0, e_al0, e_il1, e_il2, e_il3, e_is3i, e_is3r, e_is3n, e_is2i, e_is2r, e_is2n, e_is1i, e_is1r, e_is1n, e_inc1i, e_inc1r, e_inc1n, e_inc2i, e_inc2r, e_inc2n, e_c, e_i2, e_b1, e_b2, e_gi, e_gr, e_ald, e_ast, e_zr, e_cv4, e_hd, e_c10, e_c1i, e_c1r, e_sh0, e_sh1, e_sh2, e_sh3, e_sh4, e_tls, e_tln, e_tl0, e_tl1, cl_1, cl_41, cl_51, ln_51, tg_41_0, tg_41_2, Nat.reduceAdd, true_and, and_true, true_implies, not_true_eq_false, false_implies, not_false_eq_true, imp_self, forall_const, List.append_nil, ra_I, ra_J, ra_pad, true_or, or_true, Nat.reduceEqDiff, ra_bz, eq_self, if_true, if_false, false_and, and_false, Nat.zero_le, List.cons_append, List.nil_append, Nat.reduceLT, Nat.reduceLeDiff, Nat.reduceMul, Nat.reduceSub, n_0, n_1, n_2, n_3, n_4, n_5, n_6, n_7, n_8, n_9, n_10, n_12, n_40, n_48, n_57, n_59, n_72, n_99, n_102, n_103, n_107, n_108, n_192, n_255, n_256, n_999, n_1000, n_104, nI_add, pk_mul, n_cl, n_inT, n_le, n_lt, n_eq, n_m1, n_m1', n_lem1, n_m1le, n_ltm1, n_m1lt, n_lepred, n_shl, fa_or, hV.2.1.1]
      refine ⟨fun _ => ⟨(ab_hc a - (p + 1), 1, 0), lx1 (by omega), rfl, rfl, rfl, f, p + 1, 0, _, v, hf, z1, z2, by omega, fun j hj => ?_, rfl, rfl⟩, fun y => by omega⟩
      by_cases y2 : j < 8 * p + q
      · exact hg j y2
      · exact mk_p_no (fun y3 => by omega)
