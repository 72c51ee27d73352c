/-! the class: ways with each roof; could, ask -/
def sp_Kn_countEach (a : Ab) : ra_Sp := ra_f1 54 (fun x σ Z => rc_V a σ ∧ (∀ h, h < ab_hc a → σ 58 h = nI (kO a h)) ∧ (∀ t, t < 2 ^ ab_hc a → σ 59 t = nI (kF (ab_hc a) (kOc a) t)) ∧ (∀ t, t < 2 ^ ab_hc a → σ 60 t = nI (kB (ab_hc a) (kOc a) t)) ∧ x = nI (2 ^ ab_hc a - 1) ∧ ∀ σ', (∀ h r, h < ab_hc a → r < ab_hc a → σ' (62 + h) r = nI (fb_sm (kX (ab_hc a) (kOc a) h r) (2 ^ ab_hc a))) → ra_fs [62, 63, 64, 65, 66, 67, 68, 69] [] σ σ' → Z none σ')
theorem q_Kn_countEach {a : Ab} {oo : Nat} {x : Int32} {σ : ra_St} {Z : ra_R} : sp_Kn_countEach a [.ref oo, .int x] σ Z = (oo = 54 ∧ (rc_V a σ ∧ (∀ h, h < ab_hc a → σ 58 h = nI (kO a h)) ∧ (∀ t, t < 2 ^ ab_hc a → σ 59 t = nI (kF (ab_hc a) (kOc a) t)) ∧ (∀ t, t < 2 ^ ab_hc a → σ 60 t = nI (kB (ab_hc a) (kOc a) t)) ∧ x = nI (2 ^ ab_hc a - 1) ∧ ∀ σ', (∀ h r, h < ab_hc a → r < ab_hc a → σ' (62 + h) r = nI (fb_sm (kX (ab_hc a) (kOc a) h r) (2 ^ ab_hc a))) → ra_fs [62, 63, 64, 65, 66, 67, 68, 69] [] σ σ' → Z none σ')) := rfl
def I_Kn_countEach (a : Ab) (Z : ra_R) (as : List Value) (σ0 : ra_St) (t : Nat) (μ : ra_M) : ra_K := fun L S σ => S = [] ∧ as = [.ref 54, .int (nI (2 ^ ab_hc a - 1))] ∧ ∃ (h r s : Nat) (u v w : Value), ra_fs [62, 63, 64, 65, 66, 67, 68, 69] [] σ0 σ ∧ h ≤ ab_hc a ∧ r ≤ ab_hc a ∧ s < 2 ^ ab_hc a ∧
  match t with
  | 2 => μ = (3, ab_hc a - h, 100) ∧ (∀ i j, i < h → j < ab_hc a → σ (62 + i) j = nI 0) ∧ L = [.ref 54, .int (nI (2 ^ ab_hc a - 1)), .int (nI h), u, v, w]
  | 15 => μ = (3, ab_hc a - h, ab_hc a - r) ∧ h < ab_hc a ∧ (∀ i j, i < h → j < ab_hc a → σ (62 + i) j = nI 0) ∧ (∀ j, j < r → σ (62 + h) j = nI 0) ∧ L = [.ref 54, .int (nI (2 ^ ab_hc a - 1)), .int (nI h), .int (nI r), v, w]
  | 49 => μ = (2, 2 ^ ab_hc a - s, 100) ∧ (∀ i j, i < ab_hc a → j < ab_hc a → σ (62 + i) j = nI (fb_sm (kX (ab_hc a) (kOc a) i j) s)) ∧ L = [.ref 54, .int (nI (2 ^ ab_hc a - 1)), .int (nI s), u, v, w]
  | _ => μ = (2, 2 ^ ab_hc a - s, ab_hc a - r) ∧ s + 1 < 2 ^ ab_hc a ∧ (∀ i j, i < ab_hc a → j < ab_hc a → σ (62 + i) j = nI (fb_sm (kX (ab_hc a) (kOc a) i j) s + (if j < r then kX (ab_hc a) (kOc a) i j s else 0))) ∧ L = [.ref 54, .int (nI (2 ^ ab_hc a - 1)), .int (nI s), .int (nI (n_pop s)), .int (nI (kfr (kO a (n_pop s)) s)), .int (nI r)]
theorem row8 {h : Nat} (hh : h < 8) : 62 + h ∈ [62, 63, 64, 65, 66, 67, 68, 69] := by
  simp
  omega
theorem k_Kn_countEach {l : Launch} {X : ra_X} {a : Ab} : ra_MOK l X mi_Kn_countEach (sp_Kn_countEach a) := by
  have h8 := ab_hc_8 a
  obtain ⟨p1, p2⟩ := pow_256 a
  refine g_Kn_countEach k_J_bitCount k_R_has (sp_Kn_countEach a) (I_Kn_countEach a) ?_ ?_ ?_ ?_ ?_
  · intro as σ Z _ _ h
    obtain ⟨_, rfl, hV, hO, hF, hB, rfl, hZ⟩ := x_f1 h
    simp (disch := omega) only [b_Kn_countEach_138, b_Kn_countEach_132, b_Kn_countEach_126, b_Kn_countEach_96, b_Kn_countEach_86, b_Kn_countEach_74, b_Kn_countEach_54, b_Kn_countEach_49, b_Kn_countEach_47, b_Kn_countEach_41, b_Kn_countEach_26, b_Kn_countEach_15, b_Kn_countEach_13, b_Kn_countEach_2, b_Kn_countEach_0, e_al0, e_il3, e_il5, e_il2, e_il4, e_il1, e_is3i, e_is3r, e_is3n, e_is4i, e_is4r, e_is4n, e_is5i, e_is5r, e_is5n, e_is2i, e_is2r, e_is2n, e_inc2i, e_inc2r, e_inc2n, e_inc5i, e_inc5r, e_inc5n, e_inc3i, e_inc3r, e_inc3n, e_c, e_i2, e_dup2, e_b1, e_b2, e_gi, e_gr, e_ald, e_ast, e_rld, e_vr, e_cs2, e_cs1, e_c10, e_c1i, e_c1r, e_sh0, e_sh1, e_sh2, e_sh3, e_sh4, e_tls, e_tln, e_tl0, e_tl1, cl_1, cl_54, cl_58, ln_58, cl_59, ln_59, cl_60, ln_60, cl_61, ln_61, tg_54_0, tg_54_4, tg_54_5, tg_54_6, tg_54_7, q_J_bitCount, q_R_has, Nat.reduceAdd, true_and, and_true, true_implies, not_true_eq_false, false_implies, not_false_eq_true, imp_self, forall_const, List.append_nil, ra_I, ra_J, ra_pad, true_or, or_true, Nat.reduceEqDiff, ra_bz, eq_self, if_true, if_false, false_and, and_false, Nat.zero_le, List.cons_append, List.nil_append, Nat.reduceLT, Nat.reduceLeDiff, Nat.reduceMul, Nat.reduceSub, n_0, n_1, n_2, n_3, n_4, n_5, n_6, n_7, n_8, n_9, n_10, n_12, n_40, n_48, n_57, n_59, n_72, n_99, n_102, n_103, n_107, n_108, n_192, n_255, n_256, n_999, n_1000, n_104, nI_add, pk_mul, n_cl, n_inT, n_le, n_lt, n_eq, n_m1, n_m1', n_lem1, n_m1le, n_ltm1, n_m1lt, n_lepred, n_shl, fa_or]
    exact ⟨(3, ab_hc a - 0, 100), rfl, rfl, 0, 0, 0, _, _, _, ra_fs.rf, by omega, by omega, by omega, rfl, fun i j hi => by omega, rfl⟩
  · -- 2
    intro as σ0 Z h0 μ L S σ hI
    obtain ⟨rfl, rfl, h, r, s, u, v, w, hf, hh, hr, hs, rfl, hq, rfl⟩ := hI
    obtain ⟨_, e, hV0, hO0, hF0, hB0, e2, hZ⟩ := x_f1 h0
    cases e
    have hV := hV0.fs hf (by decide)
    simp (disch := omega) only [b_Kn_countEach_138, b_Kn_countEach_132, b_Kn_countEach_126, b_Kn_countEach_96, b_Kn_countEach_86, b_Kn_countEach_74, b_Kn_countEach_54, b_Kn_countEach_49, b_Kn_countEach_47, b_Kn_countEach_41, b_Kn_countEach_26, b_Kn_countEach_15, b_Kn_countEach_13, b_Kn_countEach_2, b_Kn_countEach_0, e_al0, e_il3, e_il5, e_il2, e_il4, e_il1, e_is3i, e_is3r, e_is3n, e_is4i, e_is4r, e_is4n, e_is5i, e_is5r, e_is5n, e_is2i, e_is2r, e_is2n, e_inc2i, e_inc2r, e_inc2n, e_inc5i, e_inc5r, e_inc5n, e_inc3i, e_inc3r, e_inc3n, e_c, e_i2, e_dup2, e_b1, e_b2, e_gi, e_gr, e_ald, e_ast, e_rld, e_vr, e_cs2, e_cs1, e_c10, e_c1i, e_c1r, e_sh0, e_sh1, e_sh2, e_sh3, e_sh4, e_tls, e_tln, e_tl0, e_tl1, cl_1, cl_54, cl_58, ln_58, cl_59, ln_59, cl_60, ln_60, cl_61, ln_61, tg_54_0, tg_54_4, tg_54_5, tg_54_6, tg_54_7, q_J_bitCount, q_R_has, Nat.reduceAdd, true_and, and_true, true_implies, not_true_eq_false, false_implies, not_false_eq_true, imp_self, forall_const, List.append_nil, ra_I, ra_J, ra_pad, true_or, or_true, Nat.reduceEqDiff, ra_bz, eq_self, if_true, if_false, false_and, and_false, Nat.zero_le, List.cons_append, List.nil_append, Nat.reduceLT, Nat.reduceLeDiff, Nat.reduceMul, Nat.reduceSub, n_0, n_1, n_2, n_3, n_4, n_5, n_6, n_7, n_8, n_9, n_10, n_12, n_40, n_48, n_57, n_59, n_72, n_99, n_102, n_103, n_107, n_108, n_192, n_255, n_256, n_999, n_1000, n_104, nI_add, pk_mul, n_cl, n_inT, n_le, n_lt, n_eq, n_m1, n_m1', n_lem1, n_m1le, n_ltm1, n_m1lt, n_lepred, n_shl, fa_or, hV.2.1.1]
    refine ⟨fun z => ⟨(2, 2 ^ ab_hc a - 0, 100), lx1 (by decide), rfl, rfl, h, r, 0, u, v, w, hf, hh, hr, by omega, rfl, fun i j hi hj => hq i j (by omega) hj, rfl⟩, fun z => ⟨(3, ab_hc a - h, ab_hc a - 0), lx3 (by omega), rfl, rfl, h, 0, s, u, v, w, hf, hh, by omega, hs, rfl, by omega, hq, fun j hj => by omega, rfl⟩⟩
  · -- 15
    intro as σ0 Z h0 μ L S σ hI
    obtain ⟨rfl, rfl, h, r, s, u, v, w, hf, hh, hr, hs, rfl, hh2, hq, hq2, rfl⟩ := hI
    obtain ⟨_, e, hV0, hO0, hF0, hB0, e2, hZ⟩ := x_f1 h0
    cases e
    have hV := hV0.fs hf (by decide)
    by_cases hlt : r < ab_hc a
    · obtain ⟨t1, t2, t3⟩ := tg_k h (by omega)
      simp (disch := omega) only [b_Kn_countEach_138, b_Kn_countEach_132, b_Kn_countEach_126, b_Kn_countEach_96, b_Kn_countEach_86, b_Kn_countEach_74, b_Kn_countEach_54, b_Kn_countEach_49, b_Kn_countEach_47, b_Kn_countEach_26, b_Kn_countEach_15, b_Kn_countEach_13, b_Kn_countEach_2, b_Kn_countEach_0, e_al0, e_il3, e_il5, e_il2, e_il4, e_il1, e_is3i, e_is3r, e_is3n, e_is4i, e_is4r, e_is4n, e_is5i, e_is5r, e_is5n, e_is2i, e_is2r, e_is2n, e_inc2i, e_inc2r, e_inc2n, e_inc5i, e_inc5r, e_inc5n, e_inc3i, e_inc3r, e_inc3n, e_c, e_i2, e_dup2, e_b1, e_b2, e_gi, e_gr, e_ald, e_ast, e_rld, e_vr, e_cs2, e_cs1, e_c10, e_c1i, e_c1r, e_sh0, e_sh1, e_sh2, e_sh3, e_sh4, e_tls, e_tln, e_tl0, e_tl1, cl_1, cl_54, cl_58, ln_58, cl_59, ln_59, cl_60, ln_60, cl_61, ln_61, tg_54_0, tg_54_4, tg_54_5, tg_54_6, tg_54_7, q_J_bitCount, q_R_has, Nat.reduceAdd, true_and, and_true, true_implies, not_true_eq_false, false_implies, not_false_eq_true, imp_self, forall_const, List.append_nil, ra_I, ra_J, ra_pad, true_or, or_true, Nat.reduceEqDiff, ra_bz, eq_self, if_true, if_false, false_and, and_false, Nat.zero_le, List.cons_append, List.nil_append, Nat.reduceLT, Nat.reduceLeDiff, Nat.reduceMul, Nat.reduceSub, n_0, n_1, n_2, n_3, n_4, n_5, n_6, n_7, n_8, n_9, n_10, n_12, n_40, n_48, n_57, n_59, n_72, n_99, n_102, n_103, n_107, n_108, n_192, n_255, n_256, n_999, n_1000, n_104, nI_add, pk_mul, n_cl, n_inT, n_le, n_lt, n_eq, n_m1, n_m1', n_lem1, n_m1le, n_ltm1, n_m1lt, n_lepred, n_shl, fa_or, hV.2.1.1, t1, t2, t3]
      refine ⟨fun z => by omega, fun _ => ⟨(3, ab_hc a - h, ab_hc a - (r + 1)), lx3 (by omega), rfl, rfl, h, r + 1, s, u, v, w, hf.sw (Or.inl (row8 (by omega))), hh, by omega, hs, rfl, hh2, fun i j hi hj => ?_, fun j hj => ?_, rfl⟩⟩
      · rw [sw_at, if_neg (by omega)]
        exact hq i j hi hj
      · rw [sw_at, if_pos rfl]
        split
        · rfl
        · exact hq2 j (by omega)
    · simp (disch := omega) only [b_Kn_countEach_138, b_Kn_countEach_132, b_Kn_countEach_126, b_Kn_countEach_96, b_Kn_countEach_86, b_Kn_countEach_74, b_Kn_countEach_54, b_Kn_countEach_49, b_Kn_countEach_47, b_Kn_countEach_41, b_Kn_countEach_15, b_Kn_countEach_13, b_Kn_countEach_2, b_Kn_countEach_0, e_al0, e_il3, e_il5, e_il2, e_il4, e_il1, e_is3i, e_is3r, e_is3n, e_is4i, e_is4r, e_is4n, e_is5i, e_is5r, e_is5n, e_is2i, e_is2r, e_is2n, e_inc2i, e_inc2r, e_inc2n, e_inc5i, e_inc5r, e_inc5n, e_inc3i, e_inc3r, e_inc3n, e_c, e_i2, e_dup2, e_b1, e_b2, e_gi, e_gr, e_ald, e_ast, e_rld, e_vr, e_cs2, e_cs1, e_c10, e_c1i, e_c1r, e_sh0, e_sh1, e_sh2, e_sh3, e_sh4, e_tls, e_tln, e_tl0, e_tl1, cl_1, cl_54, cl_58, ln_58, cl_59, ln_59, cl_60, ln_60, cl_61, ln_61, tg_54_0, tg_54_4, tg_54_5, tg_54_6, tg_54_7, q_J_bitCount, q_R_has, Nat.reduceAdd, true_and, and_true, true_implies, not_true_eq_false, false_implies, not_false_eq_true, imp_self, forall_const, List.append_nil, ra_I, ra_J, ra_pad, true_or, or_true, Nat.reduceEqDiff, ra_bz, eq_self, if_true, if_false, false_and, and_false, Nat.zero_le, List.cons_append, List.nil_append, Nat.reduceLT, Nat.reduceLeDiff, Nat.reduceMul, Nat.reduceSub, n_0, n_1, n_2, n_3, n_4, n_5, n_6, n_7, n_8, n_9, n_10, n_12, n_40, n_48, n_57, n_59, n_72, n_99, n_102, n_103, n_107, n_108, n_192, n_255, n_256, n_999, n_1000, n_104, nI_add, pk_mul, n_cl, n_inT, n_le, n_lt, n_eq, n_m1, n_m1', n_lem1, n_m1le, n_ltm1, n_m1lt, n_lepred, n_shl, fa_or, hV.2.1.1]
      refine ⟨fun _ => ⟨(3, ab_hc a - (h + 1), 100), lx2 (by omega), rfl, rfl, h + 1, r, s, _, v, w, hf, by omega, hr, hs, rfl, fun i j hi hj => ?_, rfl⟩, fun z => by omega⟩
      rcases (show i < h ∨ i = h by omega) with y | rfl
      · exact hq i j y hj
      · exact hq2 j (by omega)
  · -- 49
    intro as σ0 Z h0 μ L S σ hI
    obtain ⟨rfl, rfl, h, r, s, u, v, w, hf, hh, hr, hs, rfl, hq, rfl⟩ := hI
    obtain ⟨_, e, hV0, hO0, hF0, hB0, e2, hZ⟩ := x_f1 h0
    cases e
    by_cases hlt : s + 1 < 2 ^ ab_hc a
    · have hp := n_pop_lt' (ab_hc a) (by omega) s (by omega) hlt
      have hO : σ 58 (n_pop s) = nI (kO a (n_pop s)) := by
        rw [hf 58 _ (by decide) (by simp)]
        exact hO0 _ hp
      simp (disch := omega) only [b_Kn_countEach_132, b_Kn_countEach_126, b_Kn_countEach_96, b_Kn_countEach_86, b_Kn_countEach_74, b_Kn_countEach_54, b_Kn_countEach_49, b_Kn_countEach_47, b_Kn_countEach_41, b_Kn_countEach_26, b_Kn_countEach_15, b_Kn_countEach_13, b_Kn_countEach_2, b_Kn_countEach_0, e_al0, e_il3, e_il5, e_il2, e_il4, e_il1, e_is3i, e_is3r, e_is3n, e_is4i, e_is4r, e_is4n, e_is5i, e_is5r, e_is5n, e_is2i, e_is2r, e_is2n, e_inc2i, e_inc2r, e_inc2n, e_inc5i, e_inc5r, e_inc5n, e_inc3i, e_inc3r, e_inc3n, e_c, e_i2, e_dup2, e_b1, e_b2, e_gi, e_gr, e_ald, e_ast, e_rld, e_vr, e_cs2, e_cs1, e_c10, e_c1i, e_c1r, e_sh0, e_sh1, e_sh2, e_sh3, e_sh4, e_tls, e_tln, e_tl0, e_tl1, cl_1, cl_54, cl_58, ln_58, cl_59, ln_59, cl_60, ln_60, cl_61, ln_61, tg_54_0, tg_54_4, tg_54_5, tg_54_6, tg_54_7, q_J_bitCount, q_R_has, Nat.reduceAdd, true_and, and_true, true_implies, not_true_eq_false, false_implies, not_false_eq_true, imp_self, forall_const, List.append_nil, ra_I, ra_J, ra_pad, true_or, or_true, Nat.reduceEqDiff, ra_bz, eq_self, if_true, if_false, false_and, and_false, Nat.zero_le, List.cons_append, List.nil_append, Nat.reduceLT, Nat.reduceLeDiff, Nat.reduceMul, Nat.reduceSub, n_0, n_1, n_2, n_3, n_4, n_5, n_6, n_7, n_8, n_9, n_10, n_12, n_40, n_48, n_57, n_59, n_72, n_99, n_102, n_103, n_107, n_108, n_192, n_255, n_256, n_999, n_1000, n_104, nI_add, pk_mul, n_cl, n_inT, n_le, n_lt, n_eq, n_m1, n_m1', n_lem1, n_m1le, n_ltm1, n_m1lt, n_lepred, n_shl, fa_or, hO, kfr_e]
      refine ⟨fun z => by omega, fun _ => ⟨(2, 2 ^ ab_hc a - s, ab_hc a - 0), lx3 (by omega), rfl, rfl, h, 0, s, u, v, w, hf, hh, by omega, hs, rfl, hlt, fun i j hi hj => ?_, rfl⟩⟩
      rw [hq i j hi hj, if_neg (by omega)]
      rfl
    · simp (disch := omega) only [b_Kn_countEach_138, b_Kn_countEach_132, b_Kn_countEach_126, b_Kn_countEach_96, b_Kn_countEach_86, b_Kn_countEach_74, b_Kn_countEach_49, b_Kn_countEach_47, b_Kn_countEach_41, b_Kn_countEach_26, b_Kn_countEach_15, b_Kn_countEach_13, b_Kn_countEach_2, b_Kn_countEach_0, e_al0, e_il3, e_il5, e_il2, e_il4, e_il1, e_is3i, e_is3r, e_is3n, e_is4i, e_is4r, e_is4n, e_is5i, e_is5r, e_is5n, e_is2i, e_is2r, e_is2n, e_inc2i, e_inc2r, e_inc2n, e_inc5i, e_inc5r, e_inc5n, e_inc3i, e_inc3r, e_inc3n, e_c, e_i2, e_dup2, e_b1, e_b2, e_gi, e_gr, e_ald, e_ast, e_rld, e_vr, e_cs2, e_cs1, e_c10, e_c1i, e_c1r, e_sh0, e_sh1, e_sh2, e_sh3, e_sh4, e_tls, e_tln, e_tl0, e_tl1, cl_1, cl_54, cl_58, ln_58, cl_59, ln_59, cl_60, ln_60, cl_61, ln_61, tg_54_0, tg_54_4, tg_54_5, tg_54_6, tg_54_7, q_J_bitCount, q_R_has, Nat.reduceAdd, true_and, and_true, true_implies, not_true_eq_false, false_implies, not_false_eq_true, imp_self, forall_const, List.append_nil, ra_I, ra_J, ra_pad, true_or, or_true, Nat.reduceEqDiff, ra_bz, eq_self, if_true, if_false, false_and, and_false, Nat.zero_le, List.cons_append, List.nil_append, Nat.reduceLT, Nat.reduceLeDiff, Nat.reduceMul, Nat.reduceSub, n_0, n_1, n_2, n_3, n_4, n_5, n_6, n_7, n_8, n_9, n_10, n_12, n_40, n_48, n_57, n_59, n_72, n_99, n_102, n_103, n_107, n_108, n_192, n_255, n_256, n_999, n_1000, n_104, nI_add, pk_mul, n_cl, n_inT, n_le, n_lt, n_eq, n_m1, n_m1', n_lem1, n_m1le, n_ltm1, n_m1lt, n_lepred, n_shl, fa_or]
      refine ⟨fun _ => hZ σ (fun i j hi hj => ?_) hf, fun z => by omega⟩
      rw [hq i j hi hj, show 2 ^ ab_hc a = s + 1 by omega, fb_sm_succ]
      have e0 : kX (ab_hc a) (kOc a) i j s = 0 := by
        unfold kX
        rw [if_neg]
        intro q
        have := (n_pop_all (ab_hc a) (by omega) s (by omega) hs).mpr (by omega)
        omega
      rw [e0]
      rfl
  · -- 74
    intro as σ0 Z h0 μ L S σ hI
    obtain ⟨rfl, rfl, h, r, s, u, v, w, hf, hh, hr, hs, rfl, hs2, hq, rfl⟩ := hI
    obtain ⟨_, e, hV0, hO0, hF0, hB0, e2, hZ⟩ := x_f1 h0
    cases e
    have hV := hV0.fs hf (by decide)
    have hp := n_pop_lt' (ab_hc a) (by omega) s (by omega) hs2
    have hfr := kfr_lt (s := s) (kO_lt a (n_pop s))
    by_cases hlt : r < ab_hc a
    · obtain ⟨t1, t2, t3⟩ := tg_k (n_pop s) (by omega)
      have hlt2 : s ||| 2 ^ r < 2 ^ ab_hc a := Nat.or_lt_two_pow (by omega) (Nat.pow_lt_pow_right (by decide) hlt)
      have hqr := hq (n_pop s) r hp hlt
      rw [if_neg (Nat.lt_irrefl _), Nat.add_zero] at hqr
      have g59 : σ 59 s = nI (kF (ab_hc a) (kOc a) s) := by
        rw [hf 59 _ (by decide) (by simp)]
        exact hF0 s hs
      have g60 : σ 60 (s ||| 2 ^ r) = nI (kB (ab_hc a) (kOc a) (s ||| 2 ^ r)) := by
        rw [hf 60 _ (by decide) (by simp)]
        exact hB0 _ hlt2
      have bit : (kfr (kO a (n_pop s)) s).testBit r = true ↔ (s.testBit r = false ∧ kOc a (n_pop s) r = true) := by
        rw [kfr_tb (by omega), Bool.and_eq_true, Bool.not_eq_true']
        exact ⟨fun z => ⟨z.2, z.1⟩, fun z => ⟨z.2, z.1⟩⟩
      have other : ∀ i j, i < ab_hc a → j < ab_hc a → ¬ (i = n_pop s ∧ j = r ∧ (kfr (kO a (n_pop s)) s).testBit r = true) → σ (62 + i) j = nI (fb_sm (kX (ab_hc a) (kOc a) i j) s + (if j < r + 1 then kX (ab_hc a) (kOc a) i j s else 0)) := by
        intro i j hi hj hno
        rw [hq i j hi hj]
        by_cases e : j = r
        · rw [if_neg (by omega), if_pos (by omega)]
          congr 2
          unfold kX
          rw [if_neg]
          intro y
          refine hno ⟨y.1.symm, e, bit.mpr ?_⟩
          rw [y.1, ← e]
          exact y.2
        · by_cases e2 : j < r
          · rw [if_pos e2, if_pos (by omega)]
          · rw [if_neg e2, if_neg (by omega)]
      simp (disch := omega) only [b_Kn_countEach_138, b_Kn_countEach_126, b_Kn_countEach_96, b_Kn_countEach_86, b_Kn_countEach_74, b_Kn_countEach_54, b_Kn_countEach_49, b_Kn_countEach_47, b_Kn_countEach_41, b_Kn_countEach_26, b_Kn_countEach_15, b_Kn_countEach_13, b_Kn_countEach_2, b_Kn_countEach_0, e_al0, e_il3, e_il5, e_il2, e_il4, e_il1, e_is3i, e_is3r, e_is3n, e_is4i, e_is4r, e_is4n, e_is5i, e_is5r, e_is5n, e_is2i, e_is2r, e_is2n, e_inc2i, e_inc2r, e_inc2n, e_inc5i, e_inc5r, e_inc5n, e_inc3i, e_inc3r, e_inc3n, e_c, e_i2, e_dup2, e_b1, e_b2, e_gi, e_gr, e_ald, e_ast, e_rld, e_vr, e_cs2, e_cs1, e_c10, e_c1i, e_c1r, e_sh0, e_sh1, e_sh2, e_sh3, e_sh4, e_tls, e_tln, e_tl0, e_tl1, cl_1, cl_54, cl_58, ln_58, cl_59, ln_59, cl_60, ln_60, cl_61, ln_61, tg_54_0, tg_54_4, tg_54_5, tg_54_6, tg_54_7, q_J_bitCount, q_R_has, Nat.reduceAdd, true_and, and_true, true_implies, not_true_eq_false, false_implies, not_false_eq_true, imp_self, forall_const, List.append_nil, ra_I, ra_J, ra_pad, true_or, or_true, Nat.reduceEqDiff, ra_bz, eq_self, if_true, if_false, false_and, and_false, Nat.zero_le, List.cons_append, List.nil_append, Nat.reduceLT, Nat.reduceLeDiff, Nat.reduceMul, Nat.reduceSub, n_0, n_1, n_2, n_3, n_4, n_5, n_6, n_7, n_8, n_9, n_10, n_12, n_40, n_48, n_57, n_59, n_72, n_99, n_102, n_103, n_107, n_108, n_192, n_255, n_256, n_999, n_1000, n_104, nI_add, pk_mul, n_cl, n_inT, n_le, n_lt, n_eq, n_m1, n_m1', n_lem1, n_m1le, n_ltm1, n_m1lt, n_lepred, n_shl, fa_or, hV.2.1.1, t1, t2, t3, hqr, g59, g60]
      refine ⟨fun z => by omega, fun _ => ⟨fun z => ?_, fun z => ?_⟩⟩
      · refine ⟨(2, 2 ^ ab_hc a - s, ab_hc a - (r + 1)), lx3 (by omega), rfl, rfl, h, r + 1, s, u, v, w, hf.sw (Or.inl (row8 (by omega))), hh, by omega, hs, rfl, hs2, fun i j hi hj => ?_, rfl⟩
        rw [sw_at]
        by_cases e : 62 + i = 62 + n_pop s
        · rw [if_pos e]
          have ei : i = n_pop s := by omega
          by_cases e2 : j = r
          · rw [if_pos e2, ei, e2, if_pos (by omega)]
            congr 2
            unfold kX
            rw [if_pos ⟨rfl, bit.mp z⟩]
          · rw [if_neg e2, ← e]
            exact other i j hi hj (fun y => e2 y.2.1)
        · rw [if_neg e]
          exact other i j hi hj (fun y => e (by rw [y.1]))
      · exact ⟨(2, 2 ^ ab_hc a - s, ab_hc a - (r + 1)), lx3 (by omega), rfl, rfl, h, r + 1, s, u, v, w, hf, hh, by omega, hs, rfl, hs2, fun i j hi hj => other i j hi hj (fun y => z y.2.2), rfl⟩
    · simp (disch := omega) only [b_Kn_countEach_138, b_Kn_countEach_132, b_Kn_countEach_126, b_Kn_countEach_96, b_Kn_countEach_74, b_Kn_countEach_54, b_Kn_countEach_49, b_Kn_countEach_47, b_Kn_countEach_41, b_Kn_countEach_26, b_Kn_countEach_15, b_Kn_countEach_13, b_Kn_countEach_2, b_Kn_countEach_0, e_al0, e_il3, e_il5, e_il2, e_il4, e_il1, e_is3i, e_is3r, e_is3n, e_is4i, e_is4r, e_is4n, e_is5i, e_is5r, e_is5n, e_is2i, e_is2r, e_is2n, e_inc2i, e_inc2r, e_inc2n, e_inc5i, e_inc5r, e_inc5n, e_inc3i, e_inc3r, e_inc3n, e_c, e_i2, e_dup2, e_b1, e_b2, e_gi, e_gr, e_ald, e_ast, e_rld, e_vr, e_cs2, e_cs1, e_c10, e_c1i, e_c1r, e_sh0, e_sh1, e_sh2, e_sh3, e_sh4, e_tls, e_tln, e_tl0, e_tl1, cl_1, cl_54, cl_58, ln_58, cl_59, ln_59, cl_60, ln_60, cl_61, ln_61, tg_54_0, tg_54_4, tg_54_5, tg_54_6, tg_54_7, q_J_bitCount, q_R_has, Nat.reduceAdd, true_and, and_true, true_implies, not_true_eq_false, false_implies, not_false_eq_true, imp_self, forall_const, List.append_nil, ra_I, ra_J, ra_pad, true_or, or_true, Nat.reduceEqDiff, ra_bz, eq_self, if_true, if_false, false_and, and_false, Nat.zero_le, List.cons_append, List.nil_append, Nat.reduceLT, Nat.reduceLeDiff, Nat.reduceMul, Nat.reduceSub, n_0, n_1, n_2, n_3, n_4, n_5, n_6, n_7, n_8, n_9, n_10, n_12, n_40, n_48, n_57, n_59, n_72, n_99, n_102, n_103, n_107, n_108, n_192, n_255, n_256, n_999, n_1000, n_104, nI_add, pk_mul, n_cl, n_inT, n_le, n_lt, n_eq, n_m1, n_m1', n_lem1, n_m1le, n_ltm1, n_m1lt, n_lepred, n_shl, fa_or, hV.2.1.1]
      refine ⟨fun _ => ⟨(2, 2 ^ ab_hc a - (s + 1), 100), lx2 (by omega), rfl, rfl, h, r, s + 1, _, _, _, hf, hh, hr, by omega, rfl, fun i j hi hj => ?_, rfl⟩, fun z => by omega⟩
      rw [hq i j hi hj, if_pos (by omega), fb_sm_succ]
theorem rc_I.kno {a : Ab} {b : Bb} {n : Nat} {σ σ' : ra_St} (h : rc_I a b n σ) (hf : ra_fs [58, 59, 60, 62, 63, 64, 65, 66, 67, 68, 69] [(54, 9), (54, 11)] σ σ') (hs : ∀ now, σ 1 11 + σ 54 10 = nI now → rc_J a now σ') : rc_I a b n σ' := by
  obtain ⟨h1, h2, h3, h4, h5, v, w, e', k, h6, h7, h8, h9, h10, h11, h12⟩ := h
  exact ⟨h1.fs hf (by decide), h2.fs hf (by decide), h3.fs hf (by decide), h4.fs hf (by decide), h5.fs hf (by decide), v, w, e', k, h6, h7.fs hf (by decide), h8.fs hf (by decide), h9.fs hf (by decide), h10.fs hf (by decide), h11.fs hf (by decide), hs _ (by rw [h7.1, h7.2.2.2, nI_add])⟩
def sp_Kn_bringUp (a : Ab) (b : Bb) (n : Nat) : ra_Sp := ra_f0 54 (fun σ Z => rc_I a b n σ ∧ ∀ σ', rc_I a b n σ' → rs_K a σ' → ra_up σ σ' → Z none σ')
theorem q_Kn_bringUp {a : Ab} {b : Bb} {n : Nat} {oo : Nat} {σ : ra_St} {Z : ra_R} : sp_Kn_bringUp a b n [.ref oo] σ Z = (oo = 54 ∧ (rc_I a b n σ ∧ ∀ σ', rc_I a b n σ' → rs_K a σ' → ra_up σ σ' → Z none σ')) := rfl
theorem k_Kn_bringUp {l : Launch} {X : ra_X} {a : Ab} {b : Bb} {n : Nat} (hn : n < 1000000000) (hW : ab_W a) : ra_MOK l X mi_Kn_bringUp (sp_Kn_bringUp a b n) := by
  have h8 := ab_hc_8 a
  obtain ⟨p1, p2⟩ := pow_256 a
  have hr12 := hW.2.2.2.2.1
  refine g_Kn_bringUp (k_Kn_readFacts hW) (k_Kn_countBehind (a := a)) (k_Kn_countAhead (a := a)) (k_Kn_countEach (a := a)) (sp_Kn_bringUp a b n) ?_
  intro as σ Z _ _ h
  obtain ⟨rfl, hI, hZ⟩ := x_f0 h
  obtain ⟨h1, h2, h3, h4, h5, v, w, e', k, h6, h7, hh8, h9, h10, h11, h12⟩ := id hI
  have en : σ 1 11 + σ 54 10 = nI (v + k) := by rw [h7.1, h7.2.2.2, nI_add]
  simp (disch := omega) only [b_Kn_bringUp_75, b_Kn_bringUp_74, b_Kn_bringUp_65, b_Kn_bringUp_22, b_Kn_bringUp_21, b_Kn_bringUp_0, e_al0, e_il1, e_il2, e_il3, e_is2i, e_is2r, e_is2n, e_is3i, e_is3r, e_is3n, e_is1i, e_is1r, e_is1n, e_c, e_i2, e_b1, e_b2, e_gi, e_gr, e_pi, e_ald, e_vr, e_cv2, e_hd, e_c10, e_c1i, e_c1r, e_sh0, e_sh1, e_sh2, e_sh3, e_sh4, e_tls, e_tln, e_tl0, e_tl1, cl_1, cl_54, cl_60, ln_60, tg_54_0, tg_54_6, q_Kn_readFacts, q_Kn_countBehind, q_Kn_countAhead, q_Kn_countEach, Nat.reduceAdd, true_and, and_true, true_implies, not_true_eq_false, false_implies, not_false_eq_true, imp_self, forall_const, List.append_nil, ra_I, ra_J, ra_pad, true_or, or_true, Nat.reduceEqDiff, ra_bz, eq_self, if_true, if_false, false_and, and_false, Nat.zero_le, List.cons_append, List.nil_append, Nat.reduceLT, Nat.reduceLeDiff, Nat.reduceMul, Nat.reduceSub, n_0, n_1, n_2, n_3, n_4, n_5, n_6, n_7, n_8, n_9, n_10, n_12, n_40, n_48, n_57, n_59, n_72, n_99, n_102, n_103, n_107, n_108, n_192, n_255, n_256, n_999, n_1000, n_104, nI_add, pk_mul, n_cl, n_inT, n_le, n_lt, n_eq, n_m1, n_m1', n_lem1, n_m1le, n_ltm1, n_m1lt, n_lepred, n_shl, fa_or, h1.2.1.1, sw_at, n_sub]
  refine ⟨fun q => hZ σ hI (h12.yes (by omega) (q.trans en)) ra_up.rf, fun q => ?_⟩
  have f1 : ra_fs [58, 59, 60, 62, 63, 64, 65, 66, 67, 68, 69] [(54, 9), (54, 11)] σ (ra_sw σ 54 11 (σ 1 11 + σ 54 10)) := ra_fs.rf.sw (Or.inr (by decide))
  refine ⟨h1.fs f1 (by decide), h4.fs f1 (by decide), fun σ2 g2 f2 => ?_⟩
  have F2 := f1.tr f2 (by decide) (by decide)
  refine ⟨h1.fs F2 (by decide), g2, fun σ3 g3 f3 => ?_⟩
  have F3 := F2.tr f3 (by decide) (by decide)
  have o3 : ∀ i, i < ab_hc a → σ3 58 i = nI (kO a i) := fun i hi => by rw [f3 58 i (by decide) (by simp)]; exact g2 i hi
  refine ⟨h1.fs F3 (by decide), o3, fun σ4 g4 f4 => ?_⟩
  have F4 := F3.tr f4 (by decide) (by decide)
  have o4 : ∀ i, i < ab_hc a → σ4 58 i = nI (kO a i) := fun i hi => by rw [f4 58 i (by decide) (by simp)]; exact o3 i hi
  have b4 : ∀ t, t < 2 ^ ab_hc a → σ4 60 t = nI (kB (ab_hc a) (kOc a) t) := fun t ht => by rw [f4 60 t (by decide) (by simp)]; exact g3 t ht
  refine ⟨h1.fs F4 (by decide), o4, g4, b4, fun σ5 g5 f5 => ?_⟩
  have F5 := F4.tr f5 (by decide) (by decide)
  have e11 : σ5 54 11 = σ 1 11 + σ 54 10 := by
    rw [f5 54 11 (by decide) (by simp), f4 54 11 (by decide) (by simp), f3 54 11 (by decide) (by simp), f2 54 11 (by decide) (by simp), sw_at, if_pos rfl, if_pos rfl]
  have e60 : σ5 60 0 = nI (kB (ab_hc a) (kOc a) 0) := by
    rw [f5 60 0 (by decide) (by simp)]
    exact b4 0 (by omega)
  have fin : ∀ y : Int32, y = nI (kT a) → Z none (ra_sw σ5 54 9 y) := by
    intro y hy
    have F6 : ra_fs [58, 59, 60, 62, 63, 64, 65, 66, 67, 68, 69] [(54, 9), (54, 11)] σ (ra_sw σ5 54 9 y) := F5.sw (Or.inr (by decide))
    have hS : rs_K a (ra_sw σ5 54 9 y) := by
      unfold rs_K
      refine ⟨by rw [sw_at, if_pos rfl, if_pos rfl, hy], fun i r hi hr => ?_⟩
      rw [sw_at, if_neg (by omega), g5 i r hi hr, kW_cut hW hi hr]
    refine hZ _ (hI.kno F6 (fun now hnow => ?_)) hS (F6.hi (by decide))
    unfold rc_J
    rw [sw_at, if_pos rfl, if_neg (by decide), e11, hnow]
    exact rc_st.now hS
  have eT := kT_B hW
  by_cases hp : kp a (a 7 0) = true
  · rw [if_pos hp] at eT ⊢
    simp (disch := omega) only [n_0, n_1, n_2, n_3, n_4, n_5, n_6, n_7, n_8, n_9, n_10, n_12, n_40, n_48, n_57, n_59, n_72, n_99, n_102, n_103, n_107, n_108, n_192, n_255, n_256, n_999, n_1000, n_104, nI_add, pk_mul, n_cl, n_in, n_le, n_lt, n_eq, n_m1, n_m1', n_lem1, n_m1le, n_ltm1, n_m1lt, n_lepred, n_shl, fa_or, true_and, and_true, not_false_eq_true, true_implies, false_implies, Nat.reduceEqDiff]
    exact fin _ (by rw [e60, eT])
  · rw [if_neg hp] at eT ⊢
    simp (disch := omega) only [n_0, n_1, n_2, n_3, n_4, n_5, n_6, n_7, n_8, n_9, n_10, n_12, n_40, n_48, n_57, n_59, n_72, n_99, n_102, n_103, n_107, n_108, n_192, n_255, n_256, n_999, n_1000, n_104, nI_add, pk_mul, n_cl, n_in, n_le, n_lt, n_eq, n_m1, n_m1', n_lem1, n_m1le, n_ltm1, n_m1lt, n_lepred, n_shl, fa_or, true_and, and_true, not_true_eq_false, true_implies, false_implies, eq_self]
    exact fin _ (by rw [eT])
def sp_Kn_possibleRoofs (a : Ab) : ra_Sp := ra_f1 54 (fun x σ Z => rc_V a σ ∧ rs_K a σ ∧ ∃ h : Nat, h < ab_hc a ∧ x = nI h ∧ Z (some (.int (nI (kb a x (ab_hc a))))) σ)
theorem q_Kn_possibleRoofs {a : Ab} {oo : Nat} {x : Int32} {σ : ra_St} {Z : ra_R} : sp_Kn_possibleRoofs a [.ref oo, .int x] σ Z = (oo = 54 ∧ (rc_V a σ ∧ rs_K a σ ∧ ∃ h : Nat, h < ab_hc a ∧ x = nI h ∧ Z (some (.int (nI (kb a x (ab_hc a))))) σ)) := rfl
def I_Kn_possibleRoofs (a : Ab) (Z : ra_R) (as : List Value) (σ0 : ra_St) (t : Nat) (μ : ra_M) : ra_K := fun L S σ => S = [] ∧ σ = σ0 ∧ ∃ h r : Nat, as = [.ref 54, .int (nI h)] ∧ h < ab_hc a ∧ r ≤ ab_hc a ∧ μ = (ab_hc a - r, 0, 0) ∧ L = [.ref 54, .int (nI h), .int (nI (kb a (nI h) r)), .int (nI r)]
theorem k_Kn_possibleRoofs {l : Launch} {X : ra_X} {a : Ab} : ra_MOK l X mi_Kn_possibleRoofs (sp_Kn_possibleRoofs a) := by
  have h8 := ab_hc_8 a
  refine g_Kn_possibleRoofs (sp_Kn_possibleRoofs a) (I_Kn_possibleRoofs a) ?_ ?_
  · intro as σ Z _ _ h0
    obtain ⟨_, rfl, hV, hK, h, hh, rfl, hZ⟩ := x_f1 h0
    simp (disch := omega) only [b_Kn_possibleRoofs_38, b_Kn_possibleRoofs_32, b_Kn_possibleRoofs_26, b_Kn_possibleRoofs_15, b_Kn_possibleRoofs_4, b_Kn_possibleRoofs_0, e_il2, e_il3, e_al0, e_il1, e_is2i, e_is2r, e_is2n, e_is3i, e_is3r, e_is3n, e_inc3i, e_inc3r, e_inc3n, e_c, e_i2, e_b1, e_b2, e_gi, e_gr, e_ald, e_rld, e_ir, cl_1, cl_54, cl_61, ln_61, tg_54_0, tg_54_7, Nat.reduceAdd, true_and, and_true, true_implies, not_true_eq_false, false_implies, not_false_eq_true, imp_self, forall_const, List.append_nil, ra_I, ra_J, ra_pad, true_or, or_true, Nat.reduceEqDiff, ra_bz, eq_self, if_true, if_false, false_and, and_false, Nat.zero_le, List.cons_append, List.nil_append, Nat.reduceLT, Nat.reduceLeDiff, Nat.reduceMul, Nat.reduceSub, n_0, n_1, n_2, n_3, n_4, n_5, n_6, n_7, n_8, n_9, n_10, n_12, n_40, n_48, n_57, n_59, n_72, n_99, n_102, n_103, n_107, n_108, n_192, n_255, n_256, n_999, n_1000, n_104, nI_add, pk_mul, n_cl, n_inT, n_le, n_lt, n_eq, n_m1, n_m1', n_lem1, n_m1le, n_ltm1, n_m1lt, n_lepred, n_shl, fa_or]
    exact ⟨_, rfl, rfl, h, 0, rfl, hh, by omega, rfl, rfl⟩
  · intro as σ0 Z h0 μ L S σ hI
    obtain ⟨rfl, rfl, h, r, rfl, hh, hr, rfl, rfl⟩ := hI
    obtain ⟨_, e, hV, hK, h', hh', e2, hZ⟩ := x_f1 h0
    cases e
    by_cases hlt : r < ab_hc a
    · obtain ⟨t1, t2, t3⟩ := tg_k h (by omega)
      have hw := kW_lt a (nI h) (nI r)
      have step : ∀ y : Nat, y = kb a (nI h) (r + 1) → ∃ μ', ra_lx μ' (ab_hc a - r, 0, 0) ∧ I_Kn_possibleRoofs a Z [.ref 54, .int (nI h)] σ 4 μ' [.ref 54, .int (nI h), .int (nI y), .int (nI (r + 1))] [] σ := by
        intro y hy
        rw [hy]
        exact ⟨(ab_hc a - (r + 1), 0, 0), lx1 (by omega), rfl, rfl, h, r + 1, rfl, hh, by omega, rfl, rfl⟩
      simp (disch := omega) only [b_Kn_possibleRoofs_32, b_Kn_possibleRoofs_26, b_Kn_possibleRoofs_15, b_Kn_possibleRoofs_4, b_Kn_possibleRoofs_0, e_il2, e_il3, e_al0, e_il1, e_is2i, e_is2r, e_is2n, e_is3i, e_is3r, e_is3n, e_inc3i, e_inc3r, e_inc3n, e_c, e_i2, e_b1, e_b2, e_gi, e_gr, e_ald, e_rld, e_ir, cl_1, cl_54, cl_61, ln_61, tg_54_0, tg_54_7, Nat.reduceAdd, true_and, and_true, true_implies, not_true_eq_false, false_implies, not_false_eq_true, imp_self, forall_const, List.append_nil, ra_I, ra_J, ra_pad, true_or, or_true, Nat.reduceEqDiff, ra_bz, eq_self, if_true, if_false, false_and, and_false, Nat.zero_le, List.cons_append, List.nil_append, Nat.reduceLT, Nat.reduceLeDiff, Nat.reduceMul, Nat.reduceSub, n_0, n_1, n_2, n_3, n_4, n_5, n_6, n_7, n_8, n_9, n_10, n_12, n_40, n_48, n_57, n_59, n_72, n_99, n_102, n_103, n_107, n_108, n_192, n_255, n_256, n_999, n_1000, n_104, nI_add, pk_mul, n_cl, n_inT, n_le, n_lt, n_eq, n_m1, n_m1', n_lem1, n_m1le, n_ltm1, n_m1lt, n_lepred, n_shl, fa_or, hV.2.1.1, t1, t2, t3, hK.2 h r hh hlt]
      refine ⟨fun z => by omega, fun _ => ⟨fun z => step _ ?_, fun z => step _ ?_⟩⟩
      · rw [kb, if_neg (by omega)]
      · rw [kb, if_pos (by omega)]
    · simp (disch := omega) only [b_Kn_possibleRoofs_38, b_Kn_possibleRoofs_32, b_Kn_possibleRoofs_26, b_Kn_possibleRoofs_4, b_Kn_possibleRoofs_0, e_il2, e_il3, e_al0, e_il1, e_is2i, e_is2r, e_is2n, e_is3i, e_is3r, e_is3n, e_inc3i, e_inc3r, e_inc3n, e_c, e_i2, e_b1, e_b2, e_gi, e_gr, e_ald, e_rld, e_ir, cl_1, cl_54, cl_61, ln_61, tg_54_0, tg_54_7, Nat.reduceAdd, true_and, and_true, true_implies, not_true_eq_false, false_implies, not_false_eq_true, imp_self, forall_const, List.append_nil, ra_I, ra_J, ra_pad, true_or, or_true, Nat.reduceEqDiff, ra_bz, eq_self, if_true, if_false, false_and, and_false, Nat.zero_le, List.cons_append, List.nil_append, Nat.reduceLT, Nat.reduceLeDiff, Nat.reduceMul, Nat.reduceSub, n_0, n_1, n_2, n_3, n_4, n_5, n_6, n_7, n_8, n_9, n_10, n_12, n_40, n_48, n_57, n_59, n_72, n_99, n_102, n_103, n_107, n_108, n_192, n_255, n_256, n_999, n_1000, n_104, nI_add, pk_mul, n_cl, n_inT, n_le, n_lt, n_eq, n_m1, n_m1', n_lem1, n_m1le, n_ltm1, n_m1lt, n_lepred, n_shl, fa_or, hV.2.1.1]
      refine ⟨fun _ => ?_, fun z => by omega⟩
      rw [show r = ab_hc a by omega]
      exact hZ
def sp_Kn_worstLeft (a : Ab) : ra_Sp := ra_f1 54 (fun x σ Z => rc_V a σ ∧ rs_K a σ ∧ ∃ h : Nat, h < ab_hc a ∧ x = nI h ∧ Z (some (.int (nI (kwo a h (ab_hc a))))) σ)
theorem q_Kn_worstLeft {a : Ab} {oo : Nat} {x : Int32} {σ : ra_St} {Z : ra_R} : sp_Kn_worstLeft a [.ref oo, .int x] σ Z = (oo = 54 ∧ (rc_V a σ ∧ rs_K a σ ∧ ∃ h : Nat, h < ab_hc a ∧ x = nI h ∧ Z (some (.int (nI (kwo a h (ab_hc a))))) σ)) := rfl
def I_Kn_worstLeft (a : Ab) (Z : ra_R) (as : List Value) (σ0 : ra_St) (t : Nat) (μ : ra_M) : ra_K := fun L S σ => S = [] ∧ σ = σ0 ∧ ∃ h r : Nat, as = [.ref 54, .int (nI h)] ∧ h < ab_hc a ∧ r ≤ ab_hc a ∧ μ = (ab_hc a - r, 0, 0) ∧ L = [.ref 54, .int (nI h), .int (nI (kwo a h r)), .int (nI r)]
theorem k_Kn_worstLeft {l : Launch} {X : ra_X} {a : Ab} : ra_MOK l X mi_Kn_worstLeft (sp_Kn_worstLeft a) := by
  have h8 := ab_hc_8 a
  refine g_Kn_worstLeft (sp_Kn_worstLeft a) (I_Kn_worstLeft a) ?_ ?_
  · intro as σ Z _ _ h0
    obtain ⟨_, rfl, hV, hK, h, hh, rfl, hZ⟩ := x_f1 h0
    simp (disch := omega) only [b_Kn_worstLeft_34, b_Kn_worstLeft_15, b_Kn_worstLeft_4, b_Kn_worstLeft_0, e_il2, e_al0, e_il1, e_il3, e_is2i, e_is2r, e_is2n, e_is3i, e_is3r, e_is3n, e_inc3i, e_inc3r, e_inc3n, e_c, e_b2, e_gi, e_gr, e_ald, e_rld, e_max, e_ir, e_sh0, e_sh1, e_sh2, e_sh3, e_sh4, cl_1, cl_54, cl_61, ln_61, tg_54_0, tg_54_7, Nat.reduceAdd, true_and, and_true, true_implies, not_true_eq_false, false_implies, not_false_eq_true, imp_self, forall_const, List.append_nil, ra_I, ra_J, ra_pad, true_or, or_true, Nat.reduceEqDiff, ra_bz, eq_self, if_true, if_false, false_and, and_false, Nat.zero_le, List.cons_append, List.nil_append, Nat.reduceLT, Nat.reduceLeDiff, Nat.reduceMul, Nat.reduceSub, n_0, n_1, n_2, n_3, n_4, n_5, n_6, n_7, n_8, n_9, n_10, n_12, n_40, n_48, n_57, n_59, n_72, n_99, n_102, n_103, n_107, n_108, n_192, n_255, n_256, n_999, n_1000, n_104, nI_add, pk_mul, n_cl, n_inT, n_le, n_lt, n_eq, n_m1, n_m1', n_lem1, n_m1le, n_ltm1, n_m1lt, n_lepred, n_shl, fa_or]
    exact ⟨_, rfl, rfl, h, 0, rfl, hh, by omega, rfl, rfl⟩
  · intro as σ0 Z h0 μ L S σ hI
    obtain ⟨rfl, rfl, h, r, rfl, hh, hr, rfl, rfl⟩ := hI
    obtain ⟨_, e, hV, hK, h', hh', e2, hZ⟩ := x_f1 h0
    cases e
    rw [n_eq (by omega) (by omega)] at e2
    subst e2
    by_cases hlt : r < ab_hc a
    · obtain ⟨t1, t2, t3⟩ := tg_k h (by omega)
      have hw := kW_lt a (nI h) (nI r)
      have hw2 := kwo_lt a h r
      simp (disch := omega) only [b_Kn_worstLeft_15, b_Kn_worstLeft_4, b_Kn_worstLeft_0, e_il2, e_al0, e_il1, e_il3, e_is2i, e_is2r, e_is2n, e_is3i, e_is3r, e_is3n, e_inc3i, e_inc3r, e_inc3n, e_c, e_b2, e_gi, e_gr, e_ald, e_rld, e_max, e_ir, e_sh0, e_sh1, e_sh2, e_sh3, e_sh4, cl_1, cl_54, cl_61, ln_61, tg_54_0, tg_54_7, Nat.reduceAdd, true_and, and_true, true_implies, not_true_eq_false, false_implies, not_false_eq_true, imp_self, forall_const, List.append_nil, ra_I, ra_J, ra_pad, true_or, or_true, Nat.reduceEqDiff, ra_bz, eq_self, if_true, if_false, false_and, and_false, Nat.zero_le, List.cons_append, List.nil_append, Nat.reduceLT, Nat.reduceLeDiff, Nat.reduceMul, Nat.reduceSub, n_0, n_1, n_2, n_3, n_4, n_5, n_6, n_7, n_8, n_9, n_10, n_12, n_40, n_48, n_57, n_59, n_72, n_99, n_102, n_103, n_107, n_108, n_192, n_255, n_256, n_999, n_1000, n_104, nI_add, pk_mul, n_cl, n_inT, n_le, n_lt, n_eq, n_m1, n_m1', n_lem1, n_m1le, n_ltm1, n_m1lt, n_lepred, n_shl, fa_or, hV.2.1.1, t1, t2, t3, hK.2 h r hh hlt]
      refine ⟨fun z => by omega, fun _ => ⟨(ab_hc a - (r + 1), 0, 0), lx1 (by omega), rfl, rfl, h, r + 1, rfl, hh, by omega, rfl, ?_⟩⟩
      rw [kwo]
      by_cases q : kwo a h r < kW a (nI h) (nI r)
      · rw [if_pos q, if_pos q]
      · rw [if_neg q, if_neg q]
    · simp (disch := omega) only [b_Kn_worstLeft_34, b_Kn_worstLeft_4, b_Kn_worstLeft_0, e_il2, e_al0, e_il1, e_il3, e_is2i, e_is2r, e_is2n, e_is3i, e_is3r, e_is3n, e_inc3i, e_inc3r, e_inc3n, e_c, e_b2, e_gi, e_gr, e_ald, e_rld, e_max, e_ir, e_sh0, e_sh1, e_sh2, e_sh3, e_sh4, cl_1, cl_54, cl_61, ln_61, tg_54_0, tg_54_7, Nat.reduceAdd, true_and, and_true, true_implies, not_true_eq_false, false_implies, not_false_eq_true, imp_self, forall_const, List.append_nil, ra_I, ra_J, ra_pad, true_or, or_true, Nat.reduceEqDiff, ra_bz, eq_self, if_true, if_false, false_and, and_false, Nat.zero_le, List.cons_append, List.nil_append, Nat.reduceLT, Nat.reduceLeDiff, Nat.reduceMul, Nat.reduceSub, n_0, n_1, n_2, n_3, n_4, n_5, n_6, n_7, n_8, n_9, n_10, n_12, n_40, n_48, n_57, n_59, n_72, n_99, n_102, n_103, n_107, n_108, n_192, n_255, n_256, n_999, n_1000, n_104, nI_add, pk_mul, n_cl, n_inT, n_le, n_lt, n_eq, n_m1, n_m1', n_lem1, n_m1le, n_ltm1, n_m1lt, n_lepred, n_shl, fa_or, hV.2.1.1]
      refine ⟨fun _ => ?_, fun z => by omega⟩
      rw [show r = ab_hc a by omega]
      exact hZ
theorem kbi_w (a : Ab) : ∀ h, 1 ≤ h → (kbi a h).2 = kwo a (kbi a h).1 (ab_hc a) ∧ (kbi a h).1 < h
  | 0, q => by omega
  | h + 1, _ => by
    rw [kbi]
    by_cases q : h = 0 ∨ kwo a h (ab_hc a) < (kbi a h).2
    · rw [if_pos q]
      exact ⟨rfl, by show h < h + 1; omega⟩
    · rw [if_neg q]
      obtain ⟨h1, h2⟩ := kbi_w a h (by omega)
      exact ⟨h1, by omega⟩
def sp_Kn_whomToAsk (a : Ab) : ra_Sp := ra_f0 54 (fun σ Z => rc_V a σ ∧ rs_K a σ ∧ 0 < ab_hc a ∧ Z (some (.int (nI (kbi a (ab_hc a)).1))) σ)
theorem q_Kn_whomToAsk {a : Ab} {oo : Nat} {σ : ra_St} {Z : ra_R} : sp_Kn_whomToAsk a [.ref oo] σ Z = (oo = 54 ∧ (rc_V a σ ∧ rs_K a σ ∧ 0 < ab_hc a ∧ Z (some (.int (nI (kbi a (ab_hc a)).1))) σ)) := rfl
def I_Kn_whomToAsk (a : Ab) (Z : ra_R) (as : List Value) (σ0 : ra_St) (t : Nat) (μ : ra_M) : ra_K := fun L S σ => S = [] ∧ σ = σ0 ∧ as = [.ref 54] ∧ ∃ h : Nat, 1 ≤ h ∧ h ≤ ab_hc a ∧ μ = (ab_hc a - h, 0, 0) ∧ L = [.ref 54, .int (nI (kbi a h).1), .int (nI h)]
theorem k_Kn_whomToAsk {l : Launch} {X : ra_X} {a : Ab} : ra_MOK l X mi_Kn_whomToAsk (sp_Kn_whomToAsk a) := by
  have h8 := ab_hc_8 a
  refine g_Kn_whomToAsk (k_Kn_worstLeft (a := a)) (sp_Kn_whomToAsk a) (I_Kn_whomToAsk a) ?_ ?_
  · intro as σ Z _ _ h
    obtain ⟨rfl, hV, hK, h1, hZ⟩ := x_f0 h
    simp (disch := omega) only [b_Kn_whomToAsk_36, b_Kn_whomToAsk_30, b_Kn_whomToAsk_28, b_Kn_whomToAsk_15, b_Kn_whomToAsk_4, b_Kn_whomToAsk_0, e_il1, e_il2, e_al0, e_is1i, e_is1r, e_is1n, e_is2i, e_is2r, e_is2n, e_inc2i, e_inc2r, e_inc2n, e_c, e_b2, e_gi, e_gr, e_ir, e_cv2, e_hd, e_c10, e_c1i, e_c1r, e_sh0, e_sh1, e_sh2, e_sh3, e_sh4, e_tls, e_tln, e_tl0, e_tl1, cl_1, cl_54, tg_54_0, q_Kn_worstLeft, Nat.reduceAdd, true_and, and_true, true_implies, not_true_eq_false, false_implies, not_false_eq_true, imp_self, forall_const, List.append_nil, ra_I, ra_J, ra_pad, true_or, or_true, Nat.reduceEqDiff, ra_bz, eq_self, if_true, if_false, false_and, and_false, Nat.zero_le, List.cons_append, List.nil_append, Nat.reduceLT, Nat.reduceLeDiff, Nat.reduceMul, Nat.reduceSub, n_0, n_1, n_2, n_3, n_4, n_5, n_6, n_7, n_8, n_9, n_10, n_12, n_40, n_48, n_57, n_59, n_72, n_99, n_102, n_103, n_107, n_108, n_192, n_255, n_256, n_999, n_1000, n_104, nI_add, pk_mul, n_cl, n_inT, n_le, n_lt, n_eq, n_m1, n_m1', n_lem1, n_m1le, n_ltm1, n_m1lt, n_lepred, n_shl, fa_or]
    exact ⟨_, rfl, rfl, rfl, 1, by omega, by omega, rfl, rfl⟩
  · intro as σ0 Z h0 μ L S σ hI
    obtain ⟨rfl, rfl, rfl, h, h1, hh, rfl, rfl⟩ := hI
    obtain ⟨-, hV, hK, -, hZ⟩ := x_f0 h0
    obtain ⟨w1, w2⟩ := kbi_w a h h1
    have b1 := kwo_lt a h (ab_hc a)
    have b2 := kwo_lt a (kbi a h).1 (ab_hc a)
    by_cases hlt : h < ab_hc a
    · have step : ∀ y : Nat, y = (kbi a (h + 1)).1 → ∃ μ', ra_lx μ' (ab_hc a - h, 0, 0) ∧ I_Kn_whomToAsk a Z [.ref 54] σ 4 μ' [.ref 54, .int (nI y), .int (nI (h + 1))] [] σ := by
        intro y hy
        rw [hy]
        exact ⟨(ab_hc a - (h + 1), 0, 0), lx1 (by omega), rfl, rfl, rfl, h + 1, by omega, by omega, rfl, rfl⟩
      simp (disch := omega) only [b_Kn_whomToAsk_30, b_Kn_whomToAsk_28, b_Kn_whomToAsk_15, b_Kn_whomToAsk_4, b_Kn_whomToAsk_0, e_il1, e_il2, e_al0, e_is1i, e_is1r, e_is1n, e_is2i, e_is2r, e_is2n, e_inc2i, e_inc2r, e_inc2n, e_c, e_b2, e_gi, e_gr, e_ir, e_cv2, e_hd, e_c10, e_c1i, e_c1r, e_sh0, e_sh1, e_sh2, e_sh3, e_sh4, e_tls, e_tln, e_tl0, e_tl1, cl_1, cl_54, tg_54_0, q_Kn_worstLeft, Nat.reduceAdd, true_and, and_true, true_implies, not_true_eq_false, false_implies, not_false_eq_true, imp_self, forall_const, List.append_nil, ra_I, ra_J, ra_pad, true_or, or_true, Nat.reduceEqDiff, ra_bz, eq_self, if_true, if_false, false_and, and_false, Nat.zero_le, List.cons_append, List.nil_append, Nat.reduceLT, Nat.reduceLeDiff, Nat.reduceMul, Nat.reduceSub, n_0, n_1, n_2, n_3, n_4, n_5, n_6, n_7, n_8, n_9, n_10, n_12, n_40, n_48, n_57, n_59, n_72, n_99, n_102, n_103, n_107, n_108, n_192, n_255, n_256, n_999, n_1000, n_104, nI_add, pk_mul, n_cl, n_inT, n_le, n_lt, n_eq, n_m1, n_m1', n_lem1, n_m1le, n_ltm1, n_m1lt, n_lepred, n_shl, fa_or, hV.2.1.1]
      refine ⟨fun z => by omega, fun _ => ⟨hV, hK, h, hlt, rfl, hV, hK, (kbi a h).1, by omega, rfl, ?_⟩⟩
      rw [n_le (by omega) (by omega)]
      refine ⟨fun z => step _ ?_, fun z => step _ ?_⟩
      · rw [kbi, if_neg (by omega)]
      · rw [kbi, if_pos (by omega)]
    · simp (disch := omega) only [b_Kn_whomToAsk_36, b_Kn_whomToAsk_30, b_Kn_whomToAsk_28, b_Kn_whomToAsk_4, b_Kn_whomToAsk_0, e_il1, e_il2, e_al0, e_is1i, e_is1r, e_is1n, e_is2i, e_is2r, e_is2n, e_inc2i, e_inc2r, e_inc2n, e_c, e_b2, e_gi, e_gr, e_ir, e_cv2, e_hd, e_c10, e_c1i, e_c1r, e_sh0, e_sh1, e_sh2, e_sh3, e_sh4, e_tls, e_tln, e_tl0, e_tl1, cl_1, cl_54, tg_54_0, q_Kn_worstLeft, Nat.reduceAdd, true_and, and_true, true_implies, not_true_eq_false, false_implies, not_false_eq_true, imp_self, forall_const, List.append_nil, ra_I, ra_J, ra_pad, true_or, or_true, Nat.reduceEqDiff, ra_bz, eq_self, if_true, if_false, false_and, and_false, Nat.zero_le, List.cons_append, List.nil_append, Nat.reduceLT, Nat.reduceLeDiff, Nat.reduceMul, Nat.reduceSub, n_0, n_1, n_2, n_3, n_4, n_5, n_6, n_7, n_8, n_9, n_10, n_12, n_40, n_48, n_57, n_59, n_72, n_99, n_102, n_103, n_107, n_108, n_192, n_255, n_256, n_999, n_1000, n_104, nI_add, pk_mul, n_cl, n_inT, n_le, n_lt, n_eq, n_m1, n_m1', n_lem1, n_m1le, n_ltm1, n_m1lt, n_lepred, n_shl, fa_or, hV.2.1.1]
      refine ⟨fun _ => ?_, fun z => by omega⟩
      rw [show h = ab_hc a by omega]
      exact hZ
def sp_R_could (a : Ab) (b : Bb) (n : Nat) : ra_Sp := ra_f1 0 (fun x σ Z => rc_I a b n σ ∧ ∀ σ', rc_I a b n σ' → ra_up σ σ' → Z (some (.int (an_could a x))) σ')
theorem q_R_could {a : Ab} {b : Bb} {n : Nat} {oo : Nat} {x : Int32} {σ : ra_St} {Z : ra_R} : sp_R_could a b n [.ref oo, .int x] σ Z = (oo = 0 ∧ (rc_I a b n σ ∧ ∀ σ', rc_I a b n σ' → ra_up σ σ' → Z (some (.int (an_could a x))) σ')) := rfl
theorem k_R_could {l : Launch} {X : ra_X} {a : Ab} {b : Bb} {n : Nat} (hn : n < 1000000000) (hW : ab_W a) : ra_MOK l X mi_R_could (sp_R_could a b n) := by
  have h8 := ab_hc_8 a
  refine g_R_could (k_R_isNoHouse (a := a)) (k_Kn_bringUp (b := b) hn hW) (k_Kn_possibleRoofs (a := a)) (sp_R_could a b n) ?_
  intro as σ Z _ _ h
  obtain ⟨x, rfl, hI, hZ⟩ := x_f1 h
  by_cases hy : an_hs a x ∨ x = -1
  · rw [an_could_yes hy] at hZ
    unfold an_co at hZ
    have body : rc_I a b n σ ∧ ∀ σ' : ra_St, rc_I a b n σ' → rs_K a σ' → ra_up σ σ' → (x = -nI 1 → Z (some (.int (σ' 54 9))) σ') ∧ (¬ x = -nI 1 → rc_V a σ' ∧ rs_K a σ' ∧ ∃ h : Nat, h < ab_hc a ∧ x = nI h ∧ Z (some (.int (nI (kb a x (ab_hc a))))) σ') := by
      refine ⟨hI, fun σ1 g1 g2 g3 => ?_⟩
      have h9 := hZ σ1 g1 g3
      refine ⟨fun q => ?_, fun q => ?_⟩
      · rw [if_pos (show x = -1 from q)] at h9
        rw [g2.1]
        exact h9
      · rw [if_neg (show ¬ x = -1 from q)] at h9
        rcases hy with z | z
        · obtain ⟨m, hm, rfl⟩ := an_hs_of z
          exact ⟨g1.1, g2, m, hm, rfl, h9⟩
        · exact absurd z q
    simp (disch := omega) only [b_R_could_46, b_R_could_38, b_R_could_28, b_R_could_16, b_R_could_13, b_R_could_5, b_R_could_0, e_al0, e_il1, e_c, e_b1, e_b2, e_gi, e_gr, e_ir, e_cv2, e_hd, e_cv1, e_c10, e_c1i, e_c1r, e_sh0, e_sh1, e_sh2, e_sh3, e_sh4, e_tls, e_tln, e_tl0, e_tl1, cl_0, cl_54, tg_0_5, q_R_isNoHouse, q_Kn_bringUp, q_Kn_possibleRoofs, Nat.reduceAdd, true_and, and_true, true_implies, not_true_eq_false, false_implies, not_false_eq_true, imp_self, forall_const, List.append_nil, ra_I, ra_J, ra_pad, true_or, or_true, Nat.reduceEqDiff, ra_bz, eq_self, if_true, if_false, false_and, and_false, Nat.zero_le, List.cons_append, List.nil_append, Nat.reduceLT, Nat.reduceLeDiff, Nat.reduceMul, Nat.reduceSub, n_0, n_1, n_2, n_3, n_4, n_5, n_6, n_7, n_8, n_9, n_10, n_12, n_40, n_48, n_57, n_59, n_72, n_99, n_102, n_103, n_107, n_108, n_192, n_255, n_256, n_999, n_1000, n_104, nI_add, pk_mul, n_cl, n_inT, n_le, n_lt, n_eq, n_m1, n_m1', n_lem1, n_m1le, n_ltm1, n_m1lt, n_lepred, n_shl, fa_or]
    refine ⟨fun _ => body, fun q => ⟨hI.1, fun q3 => ?_, fun _ => body⟩⟩
    rcases hy with z | z
    · exact absurd z q3
    · exact absurd z q
  · rw [an_could_no hy] at hZ
    have h9 := hZ σ hI ra_up.rf
    simp (disch := omega) only [b_R_could_46, b_R_could_38, b_R_could_28, b_R_could_13, b_R_could_5, b_R_could_0, e_al0, e_il1, e_c, e_b1, e_b2, e_gi, e_gr, e_ir, e_cv2, e_hd, e_cv1, e_c10, e_c1i, e_c1r, e_sh0, e_sh1, e_sh2, e_sh3, e_sh4, e_tls, e_tln, e_tl0, e_tl1, cl_0, cl_54, tg_0_5, q_R_isNoHouse, q_Kn_bringUp, q_Kn_possibleRoofs, Nat.reduceAdd, true_and, and_true, true_implies, not_true_eq_false, false_implies, not_false_eq_true, imp_self, forall_const, List.append_nil, ra_I, ra_J, ra_pad, true_or, or_true, Nat.reduceEqDiff, ra_bz, eq_self, if_true, if_false, false_and, and_false, Nat.zero_le, List.cons_append, List.nil_append, Nat.reduceLT, Nat.reduceLeDiff, Nat.reduceMul, Nat.reduceSub, n_0, n_1, n_2, n_3, n_4, n_5, n_6, n_7, n_8, n_9, n_10, n_12, n_40, n_48, n_57, n_59, n_72, n_99, n_102, n_103, n_107, n_108, n_192, n_255, n_256, n_999, n_1000, n_104, nI_add, pk_mul, n_cl, n_inT, n_le, n_lt, n_eq, n_m1, n_m1', n_lem1, n_m1le, n_ltm1, n_m1lt, n_lepred, n_shl, fa_or]
    exact ⟨fun q => absurd (Or.inr q) hy, fun _ => ⟨hI.1, fun _ => h9, fun q => absurd (Or.inl (Classical.not_not.mp q)) hy⟩⟩
theorem kT_lt (a : Ab) : kT a ≤ 16777216 := by
  unfold kT
  split
  · split <;> omega
  · exact kW_lt _ _ _
def sp_R_ask (a : Ab) (b : Bb) (n : Nat) : ra_Sp := ra_f1 0 (fun x σ Z => rc_I a b n σ ∧ ∀ σ', rc_I a b n σ' → ra_up σ σ' → Z (some (.int (an_ask a x))) σ')
theorem q_R_ask {a : Ab} {b : Bb} {n : Nat} {oo : Nat} {x : Int32} {σ : ra_St} {Z : ra_R} : sp_R_ask a b n [.ref oo, .int x] σ Z = (oo = 0 ∧ (rc_I a b n σ ∧ ∀ σ', rc_I a b n σ' → ra_up σ σ' → Z (some (.int (an_ask a x))) σ')) := rfl
theorem k_R_ask {l : Launch} {X : ra_X} {a : Ab} {b : Bb} {n : Nat} (hn : n < 1000000000) (hW : ab_W a) : ra_MOK l X mi_R_ask (sp_R_ask a b n) := by
  have h8 := ab_hc_8 a
  have hkt := kT_lt a
  refine g_R_ask k_R_isOutside (k_Kn_bringUp (b := b) hn hW) (k_Kn_whomToAsk (a := a)) (k_Kn_worstLeft (a := a)) (sp_R_ask a b n) ?_
  intro as σ Z _ _ h
  obtain ⟨x, rfl, hI, hZ⟩ := x_f1 h
  by_cases hx : an_in x 1
  · rw [an_ask_yes hx] at hZ
    unfold an_as at hZ
    simp (disch := omega) only [b_R_ask_66, b_R_ask_58, b_R_ask_54, b_R_ask_42, b_R_ask_39, b_R_ask_29, b_R_ask_12, b_R_ask_9, b_R_ask_0, e_al0, e_il2, e_il1, e_is2i, e_is2r, e_is2n, e_c, e_b1, e_gi, e_gr, e_ir, e_cs3, e_cv2, e_hd, e_cv1, e_c10, e_c1i, e_c1r, e_sh0, e_sh1, e_sh2, e_sh3, e_sh4, e_tls, e_tln, e_tl0, e_tl1, cl_0, cl_1, cl_54, tg_0_0, tg_0_5, q_R_isOutside, q_Kn_bringUp, q_Kn_whomToAsk, q_Kn_worstLeft, Nat.reduceAdd, true_and, and_true, true_implies, not_true_eq_false, false_implies, not_false_eq_true, imp_self, forall_const, List.append_nil, ra_I, ra_J, ra_pad, true_or, or_true, Nat.reduceEqDiff, ra_bz, eq_self, if_true, if_false, false_and, and_false, Nat.zero_le, List.cons_append, List.nil_append, Nat.reduceLT, Nat.reduceLeDiff, Nat.reduceMul, Nat.reduceSub, n_0, n_1, n_2, n_3, n_4, n_5, n_6, n_7, n_8, n_9, n_10, n_12, n_40, n_48, n_57, n_59, n_72, n_99, n_102, n_103, n_107, n_108, n_192, n_255, n_256, n_999, n_1000, n_104, nI_add, pk_mul, n_cl, n_inT, n_le, n_lt, n_eq, n_m1, n_m1', n_lem1, n_m1le, n_ltm1, n_m1lt, n_lepred, n_shl, fa_or]
    refine ⟨fun q => absurd hx q, fun _ => ⟨hI, fun σ1 g1 g2 g3 => ?_⟩⟩
    have h9 := hZ σ1 g1 g3
    have w1 := kbi_w a (ab_hc a)
    rw [g1.1.2.1.1, g2.1]
    simp (disch := omega) only [n_0, n_1, n_2, n_3, n_4, n_5, n_6, n_7, n_8, n_9, n_10, n_12, n_40, n_48, n_57, n_59, n_72, n_99, n_102, n_103, n_107, n_108, n_192, n_255, n_256, n_999, n_1000, n_104, nI_add, pk_mul, n_cl, n_in, n_le, n_lt, n_eq, n_m1, n_m1', n_lem1, n_m1le, n_ltm1, n_m1lt, n_lepred, n_shl, fa_or]
    refine ⟨fun q => ?_, fun q => ⟨fun q2 => ?_, fun q2 => ⟨g1.1, g2, by omega, fun q3 => ?_, fun q3 => ⟨g1.1, g2, (kbi a (ab_hc a)).1, by have := w1 (by omega); omega, rfl, ?_⟩⟩⟩⟩
    · rw [if_pos (Or.inr q)] at h9
      exact h9
    · rw [if_pos (Or.inl q2)] at h9
      exact h9
    · rw [if_neg (by omega), if_pos (show x = 0 from q3)] at h9
      exact h9
    · rw [if_neg (by omega), if_neg (show ¬ x = 0 from q3), (w1 (by omega)).1] at h9
      exact h9
  · rw [an_ask_no hx] at hZ
    have h9 := hZ σ hI ra_up.rf
    simp (disch := omega) only [b_R_ask_66, b_R_ask_58, b_R_ask_54, b_R_ask_42, b_R_ask_39, b_R_ask_29, b_R_ask_9, b_R_ask_0, e_al0, e_il2, e_il1, e_is2i, e_is2r, e_is2n, e_c, e_b1, e_gi, e_gr, e_ir, e_cs3, e_cv2, e_hd, e_cv1, e_c10, e_c1i, e_c1r, e_sh0, e_sh1, e_sh2, e_sh3, e_sh4, e_tls, e_tln, e_tl0, e_tl1, cl_0, cl_1, cl_54, tg_0_0, tg_0_5, q_R_isOutside, q_Kn_bringUp, q_Kn_whomToAsk, q_Kn_worstLeft, Nat.reduceAdd, true_and, and_true, true_implies, not_true_eq_false, false_implies, not_false_eq_true, imp_self, forall_const, List.append_nil, ra_I, ra_J, ra_pad, true_or, or_true, Nat.reduceEqDiff, ra_bz, eq_self, if_true, if_false, false_and, and_false, Nat.zero_le, List.cons_append, List.nil_append, Nat.reduceLT, Nat.reduceLeDiff, Nat.reduceMul, Nat.reduceSub, n_0, n_1, n_2, n_3, n_4, n_5, n_6, n_7, n_8, n_9, n_10, n_12, n_40, n_48, n_57, n_59, n_72, n_99, n_102, n_103, n_107, n_108, n_192, n_255, n_256, n_999, n_1000, n_104, nI_add, pk_mul, n_cl, n_inT, n_le, n_lt, n_eq, n_m1, n_m1', n_lem1, n_m1le, n_ltm1, n_m1lt, n_lepred, n_shl, fa_or]
    exact ⟨fun _ => h9, fun q => absurd (Classical.not_not.mp q) hx⟩
