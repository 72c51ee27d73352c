/-! the class: all rows of tempers; dry -/
theorem mt.kp {a : Ab} {B most h t : Nat} {σ σ' : ra_St} (m : mt a B most h t σ) (e : σ' 40 (h * 4 + t) = σ 40 (h * 4 + t)) : mt a B most h t σ' := by
  obtain ⟨D, h1, h2, h3⟩ := m
  exact ⟨D, h1, by rw [e, h2], h3⟩
def sp_Mo_tryAll (a : Ab) (g : Nat) (most : Nat) : ra_Sp := ra_f2 28 (fun x y σ Z => rc_V a σ ∧ rc_W a σ ∧ x = nI (ab_ring a g) ∧ y = nI most ∧ ∀ σ', (∀ h, h < ab_hc a → (ab_ring a g).testBit h = true → σ' 37 h = nI most ∧ σ' 38 h = an_dr a g most 0 ∧ σ' 39 h = an_dr a g most 1) → (∀ h, h < ab_hc a → ¬ (ab_ring a g).testBit h = true → σ' 37 h = σ 37 h ∧ σ' 38 h = σ 38 h ∧ σ' 39 h = σ 39 h) → ra_fs [30, 31, 32, 33, 34, 35, 36, 37, 38, 39, 40] [(29, 9), (29, 10)] σ σ' → Z none σ')
theorem q_Mo_tryAll {a : Ab} {g : Nat} {most : Nat} {oo : Nat} {x y : Int32} {σ : ra_St} {Z : ra_R} : sp_Mo_tryAll a g most [.ref oo, .int x, .int y] σ Z = (oo = 28 ∧ (rc_V a σ ∧ rc_W a σ ∧ x = nI (ab_ring a g) ∧ y = nI most ∧ ∀ σ', (∀ h, h < ab_hc a → (ab_ring a g).testBit h = true → σ' 37 h = nI most ∧ σ' 38 h = an_dr a g most 0 ∧ σ' 39 h = an_dr a g most 1) → (∀ h, h < ab_hc a → ¬ (ab_ring a g).testBit h = true → σ' 37 h = σ 37 h ∧ σ' 38 h = σ 38 h ∧ σ' 39 h = σ 39 h) → ra_fs [30, 31, 32, 33, 34, 35, 36, 37, 38, 39, 40] [(29, 9), (29, 10)] σ σ' → Z none σ')) := rfl
def I_Mo_tryAll (a : Ab) (g : Nat) (most : Nat) (Z : ra_R) (as : List Value) (σ0 : ra_St) (t : Nat) (μ : ra_M) : ra_K := fun L S σ => S = [] ∧ as = [.ref 28, .int (nI (ab_ring a g)), .int (nI most)] ∧ ∃ (i j h : Nat) (u v w y z : Value), i ≤ cw (ab_ring a g) (ab_hc a) ∧ rc_V a σ ∧ rc_W a σ ∧ rc_who 29 a (ab_ring a g) σ ∧
  match t with
  | 10 => ra_fs [30, 31, 32, 33, 34, 35, 36, 40] [(29, 9), (29, 10)] σ0 σ ∧ (∀ p t, p < ab_hc a → (ab_ring a g).testBit p = true → cw (ab_ring a g) p < i → t < 4 → mt a (ab_ring a g) most p t σ) ∧ μ = (100 - i, 1, 0) ∧ L = [.ref 28, .int (nI (ab_ring a g)), .int (nI most), .int (nI i), u, v, w, y]
  | 24 => ra_fs [30, 31, 32, 33, 34, 35, 36, 40] [(29, 9), (29, 10)] σ0 σ ∧ j ≤ 4 ∧ h < ab_hc a ∧ (ab_ring a g).testBit h = true ∧ cw (ab_ring a g) h = i ∧ (∀ p t, p < ab_hc a → (ab_ring a g).testBit p = true → (cw (ab_ring a g) p < i ∨ p = h ∧ t < j) → t < 4 → mt a (ab_ring a g) most p t σ) ∧ μ = (100 - i, 0, 10 - j) ∧ L = [.ref 28, .int (nI (ab_ring a g)), .int (nI most), .int (nI i), .int (nI j), v, w, y]
  | 79 => ra_fs [30, 31, 32, 33, 34, 35, 36, 40] [(29, 9), (29, 10)] σ0 σ ∧ (∀ p t, p < ab_hc a → (ab_ring a g).testBit p = true → t < 4 → mt a (ab_ring a g) most p t σ) ∧ j ≤ 2 ^ (2 * n_pop (ab_ring a g)) ∧ μ = (60, 2000 - j, 0) ∧ L = [.ref 28, .int (nI (ab_ring a g)), .int (nI most), .int (nI (fb_ct (dr_ok a (ab_ring a g) most) j)), .int (dr_first (dr_ok a (ab_ring a g) most) j), .int (nI (2 ^ (2 * n_pop (ab_ring a g)))), .int (nI j), y]
  | _ => ra_fs [30, 31, 32, 33, 34, 35, 36, 37, 38, 39, 40] [(29, 9), (29, 10)] σ0 σ ∧ (∀ p, p < ab_hc a → (ab_ring a g).testBit p = true → cw (ab_ring a g) p < i → σ 37 p = nI most ∧ σ 38 p = an_dr a g most 0 ∧ σ 39 p = an_dr a g most 1) ∧ (∀ p, p < ab_hc a → ¬ (ab_ring a g).testBit p = true → σ 37 p = σ0 37 p ∧ σ 38 p = σ0 38 p ∧ σ 39 p = σ0 39 p) ∧ μ = (50 - i, 0, 0) ∧ L = [.ref 28, .int (nI (ab_ring a g)), .int (nI most), .int (an_dr a g most 0), .int (an_dr a g most 1), .int (nI (2 ^ (2 * n_pop (ab_ring a g)))), .int (nI i), y]
theorem k_Mo_tryAll {l : Launch} {X : ra_X} {a : Ab} {g most : Nat} (hW : ab_W a) (hg : g < ab_hc a) (hp5 : n_pop (ab_ring a g) ≤ 5) (hm : most ≤ 99) : ra_MOK l X mi_Mo_tryAll (sp_Mo_tryAll a g most) := by
  have h8 := ab_hc_8 a
  have hc := cw_le (ab_ring a g) (ab_hc a)
  have hcl := rc_cl_ring hg
  have hnp := cw_ring hg
  have hring := ab_ring_lt hg
  have htwo := dr_two hp5
  refine g_Mo_tryAll (k_Co_choose_29 (a := a)) (k_Mo_passAmongGrudges (B := ab_ring a g) hW) (k_Mo_keepsDry (most := most) hW hg) (sp_Mo_tryAll a g most) (I_Mo_tryAll a g most) ?_ ?_ ?_ ?_ ?_
  · intro as σ Z _ _ h0
    obtain ⟨_, _, rfl, hV, hWe, rfl, rfl, hZ⟩ := x_f2 h0
    simp (disch := omega) only [b_Mo_tryAll_177, b_Mo_tryAll_134, b_Mo_tryAll_122, b_Mo_tryAll_119, b_Mo_tryAll_113, b_Mo_tryAll_111, b_Mo_tryAll_109, b_Mo_tryAll_104, b_Mo_tryAll_95, b_Mo_tryAll_86, b_Mo_tryAll_79, b_Mo_tryAll_58, b_Mo_tryAll_52, b_Mo_tryAll_30, b_Mo_tryAll_24, b_Mo_tryAll_21, b_Mo_tryAll_10, b_Mo_tryAll_0, e_al0, e_il6, e_il7, e_il2, e_il3, e_il4, e_il5, e_il1, e_is7i, e_is7r, e_is7n, e_is6i, e_is6r, e_is6n, e_is4i, e_is4r, e_is4n, e_is3i, e_is3r, e_is3n, e_is5i, e_is5r, e_is5n, e_inc6i, e_inc6r, e_inc6n, e_inc3i, e_inc3r, e_inc3n, e_inc4i, e_inc4r, e_inc4n, e_c, e_i2, e_b1, e_b2, e_gi, e_gr, e_ald, e_ast, e_vr, e_cv2, e_hd, e_cv4, e_c10, e_c1i, e_c1r, e_sh0, e_sh1, e_sh2, e_sh3, e_sh4, e_tls, e_tln, e_tl0, e_tl1, cl_28, cl_29, cl_30, ln_30, cl_37, ln_37, cl_38, ln_38, cl_39, ln_39, tg_28_2, tg_28_3, tg_28_4, tg_28_5, tg_29_2, q_Co_choose, q_Mo_passAmongGrudges, q_Mo_keepsDry, Nat.reduceAdd, true_and, and_true, true_implies, not_true_eq_false, false_implies, not_false_eq_true, imp_self, forall_const, List.append_nil, ra_I, ra_J, ra_pad, true_or, or_true, Nat.reduceEqDiff, ra_bz, eq_self, if_true, if_false, false_and, and_false, Nat.zero_le, List.cons_append, List.nil_append, Nat.reduceLT, Nat.reduceLeDiff, Nat.reduceMul, Nat.reduceSub, n_0, n_1, n_2, n_3, n_4, n_5, n_6, n_7, n_8, n_9, n_10, n_12, n_40, n_48, n_57, n_59, n_72, n_99, n_102, n_103, n_107, n_108, n_192, n_255, n_256, n_999, n_1000, n_104, nI_add, pk_mul, n_cl, n_inT, n_le, n_lt, n_eq, n_m1, n_m1', n_lem1, n_m1le, n_ltm1, n_m1lt, n_lepred, n_shl, fa_or, q_Co_choose]
    refine ⟨hV, ab_ring a g, hring, rfl, fun σ1 g1 g2 g3 => ?_⟩
    have g3 : ra_fs [30, 31] [(29, 9)] σ σ1 := g3
    exact ⟨(100 - 0, 1, 0), rfl, rfl, 0, 0, 0, .null, .null, .null, .null, .null, by omega, hV.fs g3 (by decide), hWe.fs g3 (by decide), g1, g3.mono (by decide) (by decide), fun p t _ _ h1 _ => by omega, rfl, rfl⟩
  · -- 10
    intro as σ0 Z h0 μ L S σ hI
    obtain ⟨rfl, rfl, i, j, h, u, v, w, y, z, hi, hV, hWe, hw, hf, hT, rfl, rfl⟩ := hI
    by_cases hlt : i < cw (ab_ring a g) (ab_hc a)
    · obtain ⟨p, hp, hpb, hpi, hwp⟩ := hw.at hlt
      simp (disch := omega) only [b_Mo_tryAll_177, b_Mo_tryAll_134, b_Mo_tryAll_122, b_Mo_tryAll_119, b_Mo_tryAll_113, b_Mo_tryAll_111, b_Mo_tryAll_109, b_Mo_tryAll_104, b_Mo_tryAll_95, b_Mo_tryAll_86, b_Mo_tryAll_79, b_Mo_tryAll_52, b_Mo_tryAll_30, b_Mo_tryAll_24, b_Mo_tryAll_21, b_Mo_tryAll_10, b_Mo_tryAll_0, e_al0, e_il6, e_il7, e_il2, e_il3, e_il4, e_il5, e_il1, e_is7i, e_is7r, e_is7n, e_is6i, e_is6r, e_is6n, e_is4i, e_is4r, e_is4n, e_is3i, e_is3r, e_is3n, e_is5i, e_is5r, e_is5n, e_inc6i, e_inc6r, e_inc6n, e_inc3i, e_inc3r, e_inc3n, e_inc4i, e_inc4r, e_inc4n, e_c, e_i2, e_b1, e_b2, e_gi, e_gr, e_ald, e_ast, e_vr, e_cv2, e_hd, e_cv4, e_c10, e_c1i, e_c1r, e_sh0, e_sh1, e_sh2, e_sh3, e_sh4, e_tls, e_tln, e_tl0, e_tl1, cl_28, cl_29, cl_30, ln_30, cl_37, ln_37, cl_38, ln_38, cl_39, ln_39, tg_28_2, tg_28_3, tg_28_4, tg_28_5, tg_29_2, q_Co_choose, q_Mo_passAmongGrudges, q_Mo_keepsDry, Nat.reduceAdd, true_and, and_true, true_implies, not_true_eq_false, false_implies, not_false_eq_true, imp_self, forall_const, List.append_nil, ra_I, ra_J, ra_pad, true_or, or_true, Nat.reduceEqDiff, ra_bz, eq_self, if_true, if_false, false_and, and_false, Nat.zero_le, List.cons_append, List.nil_append, Nat.reduceLT, Nat.reduceLeDiff, Nat.reduceMul, Nat.reduceSub, n_0, n_1, n_2, n_3, n_4, n_5, n_6, n_7, n_8, n_9, n_10, n_12, n_40, n_48, n_57, n_59, n_72, n_99, n_102, n_103, n_107, n_108, n_192, n_255, n_256, n_999, n_1000, n_104, nI_add, pk_mul, n_cl, n_inT, n_le, n_lt, n_eq, n_m1, n_m1', n_lem1, n_m1le, n_ltm1, n_m1lt, n_lepred, n_shl, fa_or, hw.1]
      refine ⟨fun z => by omega, fun _ => ⟨(100 - i, 0, 10 - 0), lx2 (by omega), rfl, rfl, i, 0, p, u, v, w, y, z, hi, hV, hWe, hw, hf, by omega, hp, hpb, hpi, fun q t hq hqb ho ht => ?_, rfl, rfl⟩⟩
      rcases ho with ho | ho
      · exact hT q t hq hqb ho ht
      · omega
    · simp (disch := omega) only [b_Mo_tryAll_177, b_Mo_tryAll_134, b_Mo_tryAll_122, b_Mo_tryAll_119, b_Mo_tryAll_113, b_Mo_tryAll_111, b_Mo_tryAll_109, b_Mo_tryAll_104, b_Mo_tryAll_95, b_Mo_tryAll_86, b_Mo_tryAll_79, b_Mo_tryAll_58, b_Mo_tryAll_52, b_Mo_tryAll_30, b_Mo_tryAll_24, b_Mo_tryAll_10, b_Mo_tryAll_0, e_al0, e_il6, e_il7, e_il2, e_il3, e_il4, e_il5, e_il1, e_is7i, e_is7r, e_is7n, e_is6i, e_is6r, e_is6n, e_is4i, e_is4r, e_is4n, e_is3i, e_is3r, e_is3n, e_is5i, e_is5r, e_is5n, e_inc6i, e_inc6r, e_inc6n, e_inc3i, e_inc3r, e_inc3n, e_inc4i, e_inc4r, e_inc4n, e_c, e_i2, e_b1, e_b2, e_gi, e_gr, e_ald, e_ast, e_vr, e_cv2, e_hd, e_cv4, e_c10, e_c1i, e_c1r, e_sh0, e_sh1, e_sh2, e_sh3, e_sh4, e_tls, e_tln, e_tl0, e_tl1, cl_28, cl_29, cl_30, ln_30, cl_37, ln_37, cl_38, ln_38, cl_39, ln_39, tg_28_2, tg_28_3, tg_28_4, tg_28_5, tg_29_2, q_Co_choose, q_Mo_passAmongGrudges, q_Mo_keepsDry, Nat.reduceAdd, true_and, and_true, true_implies, not_true_eq_false, false_implies, not_false_eq_true, imp_self, forall_const, List.append_nil, ra_I, ra_J, ra_pad, true_or, or_true, Nat.reduceEqDiff, ra_bz, eq_self, if_true, if_false, false_and, and_false, Nat.zero_le, List.cons_append, List.nil_append, Nat.reduceLT, Nat.reduceLeDiff, Nat.reduceMul, Nat.reduceSub, n_0, n_1, n_2, n_3, n_4, n_5, n_6, n_7, n_8, n_9, n_10, n_12, n_40, n_48, n_57, n_59, n_72, n_99, n_102, n_103, n_107, n_108, n_192, n_255, n_256, n_999, n_1000, n_104, nI_add, pk_mul, n_cl, n_inT, n_le, n_lt, n_eq, n_m1, n_m1', n_lem1, n_m1le, n_ltm1, n_m1lt, n_lepred, n_shl, fa_or, hw.1, hnp]
      refine ⟨fun _ => ⟨(60, 2000 - 0, 0), lx1 (by omega), rfl, rfl, 0, 0, 0, u, v, w, y, z, by omega, hV, hWe, hw, hf, fun q t hq hqb ht => hT q t hq hqb ?_ ht, Nat.zero_le _, rfl, rfl⟩, fun z => by omega⟩
      have := cw_lt hq hqb
      omega
  · -- 24
    intro as σ0 Z h0 μ L S σ hI
    obtain ⟨rfl, rfl, i, j, h, u, v, w, y, z, hi, hV, hWe, hw, hf, hj, hh, hhb, hhi, hT, rfl, rfl⟩ := hI
    have hxl := cw_lt hh hhb
    by_cases hlt : j < 4
    · have hwh : σ 30 i = nI h := by
        have := hw.2 h hh hhb
        rw [hhi] at this
        exact this
      simp (disch := omega) only [b_Mo_tryAll_177, b_Mo_tryAll_134, b_Mo_tryAll_122, b_Mo_tryAll_119, b_Mo_tryAll_113, b_Mo_tryAll_111, b_Mo_tryAll_109, b_Mo_tryAll_104, b_Mo_tryAll_95, b_Mo_tryAll_86, b_Mo_tryAll_79, b_Mo_tryAll_58, b_Mo_tryAll_30, b_Mo_tryAll_24, b_Mo_tryAll_21, b_Mo_tryAll_10, b_Mo_tryAll_0, e_al0, e_il6, e_il7, e_il2, e_il3, e_il4, e_il5, e_il1, e_is7i, e_is7r, e_is7n, e_is6i, e_is6r, e_is6n, e_is4i, e_is4r, e_is4n, e_is3i, e_is3r, e_is3n, e_is5i, e_is5r, e_is5n, e_inc6i, e_inc6r, e_inc6n, e_inc3i, e_inc3r, e_inc3n, e_inc4i, e_inc4r, e_inc4n, e_c, e_i2, e_b1, e_b2, e_gi, e_gr, e_ald, e_ast, e_vr, e_cv2, e_hd, e_cv4, e_c10, e_c1i, e_c1r, e_sh0, e_sh1, e_sh2, e_sh3, e_sh4, e_tls, e_tln, e_tl0, e_tl1, cl_28, cl_29, cl_30, ln_30, cl_37, ln_37, cl_38, ln_38, cl_39, ln_39, tg_28_2, tg_28_3, tg_28_4, tg_28_5, tg_29_2, q_Co_choose, q_Mo_passAmongGrudges, q_Mo_keepsDry, Nat.reduceAdd, true_and, and_true, true_implies, not_true_eq_false, false_implies, not_false_eq_true, imp_self, forall_const, List.append_nil, ra_I, ra_J, ra_pad, true_or, or_true, Nat.reduceEqDiff, ra_bz, eq_self, if_true, if_false, false_and, and_false, Nat.zero_le, List.cons_append, List.nil_append, Nat.reduceLT, Nat.reduceLeDiff, Nat.reduceMul, Nat.reduceSub, n_0, n_1, n_2, n_3, n_4, n_5, n_6, n_7, n_8, n_9, n_10, n_12, n_40, n_48, n_57, n_59, n_72, n_99, n_102, n_103, n_107, n_108, n_192, n_255, n_256, n_999, n_1000, n_104, nI_add, pk_mul, n_cl, n_inT, n_le, n_lt, n_eq, n_m1, n_m1', n_lem1, n_m1le, n_ltm1, n_m1lt, n_lepred, n_shl, fa_or, hwh]
      refine ⟨fun z => by omega, fun _ => ⟨hV, hWe, hcl, hw, h, j, most, rfl, rfl, rfl, hh, hhb, hlt, hm, fun σ1 g1 g2 g3 => ?_⟩⟩
      refine ⟨(100 - i, 0, 10 - (j + 1)), lx3 (by omega), rfl, rfl, i, j + 1, h, u, v, w, y, z, hi, hV.fs g3 (by decide), hWe.fs g3 (by decide), hw.fs g3 (by decide), hf.tr g3 (by decide) (by decide), by omega, hh, hhb, hhi, fun q t hq hqb ho ht => ?_, rfl, rfl⟩
      by_cases e : q = h ∧ t = j
      · rw [e.1, e.2]
        exact g1
      · refine mt.kp (hT q t hq hqb ?_ ht) (g2 _ (by omega))
        rcases ho with ho | ho
        · exact Or.inl ho
        · exact Or.inr ⟨ho.1, by omega⟩
    · simp (disch := omega) only [b_Mo_tryAll_177, b_Mo_tryAll_134, b_Mo_tryAll_122, b_Mo_tryAll_119, b_Mo_tryAll_113, b_Mo_tryAll_111, b_Mo_tryAll_109, b_Mo_tryAll_104, b_Mo_tryAll_95, b_Mo_tryAll_86, b_Mo_tryAll_79, b_Mo_tryAll_58, b_Mo_tryAll_52, b_Mo_tryAll_24, b_Mo_tryAll_21, b_Mo_tryAll_10, b_Mo_tryAll_0, e_al0, e_il6, e_il7, e_il2, e_il3, e_il4, e_il5, e_il1, e_is7i, e_is7r, e_is7n, e_is6i, e_is6r, e_is6n, e_is4i, e_is4r, e_is4n, e_is3i, e_is3r, e_is3n, e_is5i, e_is5r, e_is5n, e_inc6i, e_inc6r, e_inc6n, e_inc3i, e_inc3r, e_inc3n, e_inc4i, e_inc4r, e_inc4n, e_c, e_i2, e_b1, e_b2, e_gi, e_gr, e_ald, e_ast, e_vr, e_cv2, e_hd, e_cv4, e_c10, e_c1i, e_c1r, e_sh0, e_sh1, e_sh2, e_sh3, e_sh4, e_tls, e_tln, e_tl0, e_tl1, cl_28, cl_29, cl_30, ln_30, cl_37, ln_37, cl_38, ln_38, cl_39, ln_39, tg_28_2, tg_28_3, tg_28_4, tg_28_5, tg_29_2, q_Co_choose, q_Mo_passAmongGrudges, q_Mo_keepsDry, Nat.reduceAdd, true_and, and_true, true_implies, not_true_eq_false, false_implies, not_false_eq_true, imp_self, forall_const, List.append_nil, ra_I, ra_J, ra_pad, true_or, or_true, Nat.reduceEqDiff, ra_bz, eq_self, if_true, if_false, false_and, and_false, Nat.zero_le, List.cons_append, List.nil_append, Nat.reduceLT, Nat.reduceLeDiff, Nat.reduceMul, Nat.reduceSub, n_0, n_1, n_2, n_3, n_4, n_5, n_6, n_7, n_8, n_9, n_10, n_12, n_40, n_48, n_57, n_59, n_72, n_99, n_102, n_103, n_107, n_108, n_192, n_255, n_256, n_999, n_1000, n_104, nI_add, pk_mul, n_cl, n_inT, n_le, n_lt, n_eq, n_m1, n_m1', n_lem1, n_m1le, n_ltm1, n_m1lt, n_lepred, n_shl, fa_or]
      refine ⟨fun _ => ⟨(100 - (i + 1), 1, 0), lx1 (by omega), rfl, rfl, i + 1, 0, 0, _, v, w, y, z, by omega, hV, hWe, hw, hf, fun q t hq hqb ho ht => hT q t hq hqb ?_ ht, rfl, rfl⟩, fun z => by omega⟩
      rcases (show cw (ab_ring a g) q < i ∨ cw (ab_ring a g) q = i by omega) with y | y
      · exact Or.inl y
      · exact Or.inr ⟨cw_inj hqb hhb (y.trans hhi.symm), by omega⟩
  · -- 79
    intro as σ0 Z h0 μ L S σ hI
    obtain ⟨rfl, rfl, i, j, h, u, v, w, y, z, hi, hV, hWe, hw, hf, hT, hj, rfl, rfl⟩ := hI
    have hct := fb_ct_le (dr_ok a (ab_ring a g) most) j
    by_cases hlt : j < 2 ^ (2 * n_pop (ab_ring a g))
    · have step : ∀ (σ1 : ra_St) (f : Nat) (le : Int32), ra_fs [31] [] σ σ1 → f = fb_ct (dr_ok a (ab_ring a g) most) (j + 1) → le = dr_first (dr_ok a (ab_ring a g) most) (j + 1) → ∃ μ', ra_lx μ' (60, 2000 - j, 0) ∧ I_Mo_tryAll a g most Z [.ref 28, .int (nI (ab_ring a g)), .int (nI most)] σ0 79 μ' [.ref 28, .int (nI (ab_ring a g)), .int (nI most), .int (nI f), .int le, .int (nI (2 ^ (2 * n_pop (ab_ring a g)))), .int (nI (j + 1)), y] [] σ1 := by
        intro σ1 f le g1 h1 h2
        rw [h1, h2]
        exact ⟨(60, 2000 - (j + 1), 0), lx2 (by omega), rfl, rfl, 0, j + 1, 0, u, v, w, y, z, by omega, hV.fs g1 (by decide), hWe.fs g1 (by decide), hw.fs g1 (by decide), hf.tr g1 (by decide) (by decide), fun p t hp hpb ht => mt.kp (hT p t hp hpb ht) (g1 40 _ (by decide) (by simp)), by omega, rfl, rfl⟩
      have e1 := fb_ct_succ (dr_ok a (ab_ring a g) most) j
      have e2 := dr_first_s (p := dr_ok a (ab_ring a g) most) (n := j) (by omega)
      simp (disch := omega) only [b_Mo_tryAll_177, b_Mo_tryAll_134, b_Mo_tryAll_122, b_Mo_tryAll_113, b_Mo_tryAll_111, b_Mo_tryAll_109, b_Mo_tryAll_104, b_Mo_tryAll_95, b_Mo_tryAll_86, b_Mo_tryAll_79, b_Mo_tryAll_58, b_Mo_tryAll_52, b_Mo_tryAll_30, b_Mo_tryAll_24, b_Mo_tryAll_21, b_Mo_tryAll_10, b_Mo_tryAll_0, e_al0, e_il6, e_il7, e_il2, e_il3, e_il4, e_il5, e_il1, e_is7i, e_is7r, e_is7n, e_is6i, e_is6r, e_is6n, e_is4i, e_is4r, e_is4n, e_is3i, e_is3r, e_is3n, e_is5i, e_is5r, e_is5n, e_inc6i, e_inc6r, e_inc6n, e_inc3i, e_inc3r, e_inc3n, e_inc4i, e_inc4r, e_inc4n, e_c, e_i2, e_b1, e_b2, e_gi, e_gr, e_ald, e_ast, e_vr, e_cv2, e_hd, e_cv4, e_c10, e_c1i, e_c1r, e_sh0, e_sh1, e_sh2, e_sh3, e_sh4, e_tls, e_tln, e_tl0, e_tl1, cl_28, cl_29, cl_30, ln_30, cl_37, ln_37, cl_38, ln_38, cl_39, ln_39, tg_28_2, tg_28_3, tg_28_4, tg_28_5, tg_29_2, q_Co_choose, q_Mo_passAmongGrudges, q_Mo_keepsDry, Nat.reduceAdd, true_and, and_true, true_implies, not_true_eq_false, false_implies, not_false_eq_true, imp_self, forall_const, List.append_nil, ra_I, ra_J, ra_pad, true_or, or_true, Nat.reduceEqDiff, ra_bz, eq_self, if_true, if_false, false_and, and_false, Nat.zero_le, List.cons_append, List.nil_append, Nat.reduceLT, Nat.reduceLeDiff, Nat.reduceMul, Nat.reduceSub, n_0, n_1, n_2, n_3, n_4, n_5, n_6, n_7, n_8, n_9, n_10, n_12, n_40, n_48, n_57, n_59, n_72, n_99, n_102, n_103, n_107, n_108, n_192, n_255, n_256, n_999, n_1000, n_104, nI_add, pk_mul, n_cl, n_inT, n_le, n_lt, n_eq, n_m1, n_m1', n_lem1, n_m1le, n_ltm1, n_m1lt, n_lepred, n_shl, fa_or]
      refine ⟨fun z => by omega, fun _ => ⟨hV, hw, hT, j, rfl, by omega, fun σ1 g1 => ⟨fun q => ⟨fun q2 => ?_, fun q2 => ?_⟩, fun q => ?_⟩⟩⟩
      · rw [if_pos q] at e1 e2
        rw [if_pos (show dr_first (dr_ok a (ab_ring a g) most) j = -1 from q2)] at e2
        exact step σ1 _ _ g1 e1.symm e2.symm
      · rw [if_pos q] at e1 e2
        rw [if_neg (show ¬ dr_first (dr_ok a (ab_ring a g) most) j = -1 from q2)] at e2
        exact step σ1 _ _ g1 e1.symm e2.symm
      · rw [if_neg q] at e1 e2
        exact step σ1 _ _ g1 e1.symm e2.symm
    · have ej : j = 2 ^ (2 * n_pop (ab_ring a g)) := by omega
      have a0 : an_dr a g most 0 = nI (fb_ct (dr_ok a (ab_ring a g) most) j) := by
        unfold an_dr
        rw [if_neg (by omega), if_pos rfl, ej]
      have a1 : an_dr a g most 1 = dr_first (dr_ok a (ab_ring a g) most) j := by
        unfold an_dr
        rw [if_neg (by omega), if_neg (by decide), ej]
      simp (disch := omega) only [b_Mo_tryAll_177, b_Mo_tryAll_134, b_Mo_tryAll_122, b_Mo_tryAll_119, b_Mo_tryAll_113, b_Mo_tryAll_111, b_Mo_tryAll_109, b_Mo_tryAll_104, b_Mo_tryAll_95, b_Mo_tryAll_79, b_Mo_tryAll_58, b_Mo_tryAll_52, b_Mo_tryAll_30, b_Mo_tryAll_24, b_Mo_tryAll_21, b_Mo_tryAll_10, b_Mo_tryAll_0, e_al0, e_il6, e_il7, e_il2, e_il3, e_il4, e_il5, e_il1, e_is7i, e_is7r, e_is7n, e_is6i, e_is6r, e_is6n, e_is4i, e_is4r, e_is4n, e_is3i, e_is3r, e_is3n, e_is5i, e_is5r, e_is5n, e_inc6i, e_inc6r, e_inc6n, e_inc3i, e_inc3r, e_inc3n, e_inc4i, e_inc4r, e_inc4n, e_c, e_i2, e_b1, e_b2, e_gi, e_gr, e_ald, e_ast, e_vr, e_cv2, e_hd, e_cv4, e_c10, e_c1i, e_c1r, e_sh0, e_sh1, e_sh2, e_sh3, e_sh4, e_tls, e_tln, e_tl0, e_tl1, cl_28, cl_29, cl_30, ln_30, cl_37, ln_37, cl_38, ln_38, cl_39, ln_39, tg_28_2, tg_28_3, tg_28_4, tg_28_5, tg_29_2, q_Co_choose, q_Mo_passAmongGrudges, q_Mo_keepsDry, Nat.reduceAdd, true_and, and_true, true_implies, not_true_eq_false, false_implies, not_false_eq_true, imp_self, forall_const, List.append_nil, ra_I, ra_J, ra_pad, true_or, or_true, Nat.reduceEqDiff, ra_bz, eq_self, if_true, if_false, false_and, and_false, Nat.zero_le, List.cons_append, List.nil_append, Nat.reduceLT, Nat.reduceLeDiff, Nat.reduceMul, Nat.reduceSub, n_0, n_1, n_2, n_3, n_4, n_5, n_6, n_7, n_8, n_9, n_10, n_12, n_40, n_48, n_57, n_59, n_72, n_99, n_102, n_103, n_107, n_108, n_192, n_255, n_256, n_999, n_1000, n_104, nI_add, pk_mul, n_cl, n_inT, n_le, n_lt, n_eq, n_m1, n_m1', n_lem1, n_m1le, n_ltm1, n_m1lt, n_lepred, n_shl, fa_or]
      refine ⟨fun _ => ⟨(50 - 0, 0, 0), lx1 (by omega), rfl, rfl, 0, 0, 0, u, v, w, y, z, by omega, hV, hWe, hw, hf.mono (by decide) (by decide), fun p _ _ h1 => by omega, fun p hp hpb => ⟨hf 37 p (by decide) (by simp), hf 38 p (by decide) (by simp), hf 39 p (by decide) (by simp)⟩, rfl, by rw [a0, a1]⟩, fun z => by omega⟩
  · -- 122
    intro as σ0 Z h0 μ L S σ hI
    obtain ⟨rfl, rfl, i, j, h, u, v, w, y, z, hi, hV, hWe, hw, hf, hq, hn, rfl, rfl⟩ := hI
    obtain ⟨_, _, e, -, -, -, -, hZ⟩ := x_f2 h0
    cases e
    by_cases hlt : i < cw (ab_ring a g) (ab_hc a)
    · obtain ⟨p, hp, hpb, hpi, hwp⟩ := hw.at hlt
      have hwp : σ 30 i = nI p := hwp
      have hf1 : ra_fs [37, 38, 39] [] σ (ra_sw (ra_sw (ra_sw σ 37 p (nI most)) 38 p (an_dr a g most 0)) 39 p (an_dr a g most 1)) := ((ra_fs.rf.sw (Or.inl (by decide))).sw (Or.inl (by decide))).sw (Or.inl (by decide))
      simp (disch := omega) only [b_Mo_tryAll_134, b_Mo_tryAll_122, b_Mo_tryAll_119, b_Mo_tryAll_113, b_Mo_tryAll_111, b_Mo_tryAll_109, b_Mo_tryAll_104, b_Mo_tryAll_95, b_Mo_tryAll_86, b_Mo_tryAll_79, b_Mo_tryAll_58, b_Mo_tryAll_52, b_Mo_tryAll_30, b_Mo_tryAll_24, b_Mo_tryAll_21, b_Mo_tryAll_10, b_Mo_tryAll_0, e_al0, e_il6, e_il7, e_il2, e_il3, e_il4, e_il5, e_il1, e_is7i, e_is7r, e_is7n, e_is6i, e_is6r, e_is6n, e_is4i, e_is4r, e_is4n, e_is3i, e_is3r, e_is3n, e_is5i, e_is5r, e_is5n, e_inc6i, e_inc6r, e_inc6n, e_inc3i, e_inc3r, e_inc3n, e_inc4i, e_inc4r, e_inc4n, e_c, e_i2, e_b1, e_b2, e_gi, e_gr, e_ald, e_ast, e_vr, e_cv2, e_hd, e_cv4, e_c10, e_c1i, e_c1r, e_sh0, e_sh1, e_sh2, e_sh3, e_sh4, e_tls, e_tln, e_tl0, e_tl1, cl_28, cl_29, cl_30, ln_30, cl_37, ln_37, cl_38, ln_38, cl_39, ln_39, tg_28_2, tg_28_3, tg_28_4, tg_28_5, tg_29_2, q_Co_choose, q_Mo_passAmongGrudges, q_Mo_keepsDry, Nat.reduceAdd, true_and, and_true, true_implies, not_true_eq_false, false_implies, not_false_eq_true, imp_self, forall_const, List.append_nil, ra_I, ra_J, ra_pad, true_or, or_true, Nat.reduceEqDiff, ra_bz, eq_self, if_true, if_false, false_and, and_false, Nat.zero_le, List.cons_append, List.nil_append, Nat.reduceLT, Nat.reduceLeDiff, Nat.reduceMul, Nat.reduceSub, n_0, n_1, n_2, n_3, n_4, n_5, n_6, n_7, n_8, n_9, n_10, n_12, n_40, n_48, n_57, n_59, n_72, n_99, n_102, n_103, n_107, n_108, n_192, n_255, n_256, n_999, n_1000, n_104, nI_add, pk_mul, n_cl, n_inT, n_le, n_lt, n_eq, n_m1, n_m1', n_lem1, n_m1le, n_ltm1, n_m1lt, n_lepred, n_shl, fa_or, hw.1, hwp]
      refine ⟨fun z => by omega, fun _ => ⟨(50 - (i + 1), 0, 0), lx1 (by omega), rfl, rfl, i + 1, 0, 0, u, v, w, _, z, by omega, hV.fs hf1 (by decide), hWe.fs hf1 (by decide), hw.fs hf1 (by decide), hf.tr hf1 (by decide) (by decide), fun r hr hrb hri => ?_, fun r hr hrb => ?_, rfl, rfl⟩⟩
      · by_cases e : r = p
        · subst e
          exact ⟨by simp [sw_at], by simp [sw_at]; rfl, by simp [sw_at]; rfl⟩
        · have e3 : ¬ cw (ab_ring a g) r = i := fun z => e (cw_inj hrb hpb (z.trans hpi.symm))
          have h9 := hq r hr hrb (by omega)
          simpa [sw_at, e] using h9
      · have e : ¬ r = p := fun z => hrb (by rw [z]; exact hpb)
        have h9 := hn r hr hrb
        simpa [sw_at, e] using h9
    · simp (disch := omega) only [b_Mo_tryAll_177, b_Mo_tryAll_122, b_Mo_tryAll_119, b_Mo_tryAll_113, b_Mo_tryAll_111, b_Mo_tryAll_109, b_Mo_tryAll_104, b_Mo_tryAll_95, b_Mo_tryAll_86, b_Mo_tryAll_79, b_Mo_tryAll_58, b_Mo_tryAll_52, b_Mo_tryAll_30, b_Mo_tryAll_24, b_Mo_tryAll_21, b_Mo_tryAll_10, b_Mo_tryAll_0, e_al0, e_il6, e_il7, e_il2, e_il3, e_il4, e_il5, e_il1, e_is7i, e_is7r, e_is7n, e_is6i, e_is6r, e_is6n, e_is4i, e_is4r, e_is4n, e_is3i, e_is3r, e_is3n, e_is5i, e_is5r, e_is5n, e_inc6i, e_inc6r, e_inc6n, e_inc3i, e_inc3r, e_inc3n, e_inc4i, e_inc4r, e_inc4n, e_c, e_i2, e_b1, e_b2, e_gi, e_gr, e_ald, e_ast, e_vr, e_cv2, e_hd, e_cv4, e_c10, e_c1i, e_c1r, e_sh0, e_sh1, e_sh2, e_sh3, e_sh4, e_tls, e_tln, e_tl0, e_tl1, cl_28, cl_29, cl_30, ln_30, cl_37, ln_37, cl_38, ln_38, cl_39, ln_39, tg_28_2, tg_28_3, tg_28_4, tg_28_5, tg_29_2, q_Co_choose, q_Mo_passAmongGrudges, q_Mo_keepsDry, Nat.reduceAdd, true_and, and_true, true_implies, not_true_eq_false, false_implies, not_false_eq_true, imp_self, forall_const, List.append_nil, ra_I, ra_J, ra_pad, true_or, or_true, Nat.reduceEqDiff, ra_bz, eq_self, if_true, if_false, false_and, and_false, Nat.zero_le, List.cons_append, List.nil_append, Nat.reduceLT, Nat.reduceLeDiff, Nat.reduceMul, Nat.reduceSub, n_0, n_1, n_2, n_3, n_4, n_5, n_6, n_7, n_8, n_9, n_10, n_12, n_40, n_48, n_57, n_59, n_72, n_99, n_102, n_103, n_107, n_108, n_192, n_255, n_256, n_999, n_1000, n_104, nI_add, pk_mul, n_cl, n_inT, n_le, n_lt, n_eq, n_m1, n_m1', n_lem1, n_m1le, n_ltm1, n_m1lt, n_lepred, n_shl, fa_or, hw.1]
      refine ⟨fun _ => hZ σ (fun r hr hrb => hq r hr hrb ?_) hn hf, fun z => by omega⟩
      have := cw_lt hr hrb
      omega
theorem an_dr_ring {a : Ab} {g h most : Nat} {w : Int32} (e : ab_ring a h = ab_ring a g) : an_dr a h most w = an_dr a g most w := by
  unfold an_dr
  rw [e]
def sp_R_dry (a : Ab) (b : Bb) (n : Nat) : ra_Sp := ra_f3 0 (fun x y w σ Z => rc_I a b n σ ∧ ∀ σ', rc_I a b n σ' → ra_up σ σ' → Z (some (.int (an_dry a x y w))) σ')
theorem q_R_dry {a : Ab} {b : Bb} {n : Nat} {oo : Nat} {x y w : Int32} {σ : ra_St} {Z : ra_R} : sp_R_dry a b n [.ref oo, .int x, .int y, .int w] σ Z = (oo = 0 ∧ (rc_I a b n σ ∧ ∀ σ', rc_I a b n σ' → ra_up σ σ' → Z (some (.int (an_dry a x y w))) σ')) := rfl
theorem k_R_dry {l : Launch} {X : ra_X} {a : Ab} {b : Bb} {n : Nat} (hn : n < 1000000000) (hW : ab_W a) : ra_MOK l X mi_R_dry (sp_R_dry a b n) := by
  have h8 := ab_hc_8 a
  refine g_R_dry (c4 := fun as σ Z => ∃ q : Nat × Nat, (q.1 < ab_hc a ∧ n_pop (ab_ring a q.1) ≤ 5 ∧ q.2 ≤ 99) ∧ sp_Mo_tryAll a q.1 q.2 as σ Z) (k_R_isNoHouse (a := a)) k_R_isOutside k_J_bitCount (k_Mo_isTried (b := b) hn hW) (ra_MOK_ex (fun q hq => k_Mo_tryAll hW hq.1 hq.2.1 hq.2.2)) (sp_R_dry a b n) ?_
  intro as σ Z _ _ h
  obtain ⟨x, y, w, rfl, hI, hZ⟩ := x_f3 h
  by_cases hy : an_hs a x ∧ an_in y 99 ∧ an_in w 1
  · rw [an_dry_yes hy] at hZ
    obtain ⟨i, hi, rfl⟩ := an_hs_of hy.1
    obtain ⟨m, hm, rfl⟩ := an_in_of hy.2.1 (by decide)
    rw [n_cl (by omega), n_cl (by omega)] at hZ
    have hring := ab_ring_lt hi
    have hp8 := n_pop_le (ab_ring a i)
    have er := (hI.1.2.2.2.2 i hi).2.2
    have end_ : ∀ σ1 : ra_St, rc_I a b n σ1 → ra_up σ σ1 → n_pop (ab_ring a i) ≤ 5 → σ1 38 i = an_dr a i m 0 → σ1 39 i = an_dr a i m 1 → (w = nI 0 → Z (some (.int (σ1 38 i))) σ1) ∧ (¬ w = nI 0 → Z (some (.int (σ1 39 i))) σ1) := by
      intro σ1 g1 g2 g3 g4 g5
      have h9 := hZ σ1 g1 g2
      unfold an_dr at h9 g4 g5
      rw [if_neg (by omega)] at h9 g4 g5
      rw [if_pos rfl] at g4
      rw [if_neg (by decide)] at g5
      refine ⟨fun q => ?_, fun q => ?_⟩
      · rw [if_pos (show w = 0 from q)] at h9
        rw [g4]
        exact h9
      · rw [if_neg (show ¬ w = 0 from q)] at h9
        rw [g5]
        exact h9
    simp (disch := omega) only [b_R_dry_103, b_R_dry_94, b_R_dry_82, b_R_dry_78, b_R_dry_61, b_R_dry_49, b_R_dry_46, b_R_dry_30, b_R_dry_27, b_R_dry_18, b_R_dry_8, b_R_dry_0, e_al0, e_il1, e_il3, e_il2, e_c, e_b1, e_b2, e_gr, e_ald, e_ir, e_cs1, e_cs3, e_cv3, e_hd, e_cv2, e_c10, e_c1i, e_c1r, e_sh0, e_sh1, e_sh2, e_sh3, e_sh4, e_tls, e_tln, e_tl0, e_tl1, cl_0, cl_1, cl_11, ln_11, cl_28, cl_38, ln_38, cl_39, ln_39, tg_0_0, tg_0_3, tg_1_7, tg_28_4, tg_28_5, q_R_isNoHouse, q_R_isOutside, q_J_bitCount, q_Mo_isTried, q_Mo_tryAll, Nat.reduceAdd, true_and, and_true, true_implies, not_true_eq_false, false_implies, not_false_eq_true, imp_self, forall_const, List.append_nil, ra_I, ra_J, ra_pad, true_or, or_true, Nat.reduceEqDiff, ra_bz, eq_self, if_true, if_false, false_and, and_false, Nat.zero_le, List.cons_append, List.nil_append, Nat.reduceLT, Nat.reduceLeDiff, Nat.reduceMul, Nat.reduceSub, n_0, n_1, n_2, n_3, n_4, n_5, n_6, n_7, n_8, n_9, n_10, n_12, n_40, n_48, n_57, n_59, n_72, n_99, n_102, n_103, n_107, n_108, n_192, n_255, n_256, n_999, n_1000, n_104, nI_add, pk_mul, n_cl, n_inT, n_le, n_lt, n_eq, n_m1, n_m1', n_lem1, n_m1le, n_ltm1, n_m1lt, n_lepred, n_shl, fa_or, er, q_Mo_tryAll]
    refine ⟨hI.1, fun q => absurd hy.1 q, fun _ => ⟨fun q => absurd hm q, fun _ => ⟨fun q => absurd hy.2.2 q, fun _ => ⟨fun q5 => ?_, fun q5 => ?_⟩⟩⟩⟩
    · refine ⟨hI, i, m, hi, rfl, rfl, hm, fun σ1 g1 g2 g3 => ⟨fun q => ?_, fun q => ?_⟩⟩
      · have hM := g2 i hi
        rcases hM with z | ⟨m', z1, z2, z3, z4, z5⟩
        · rw [z] at q
          have h4 : (-nI 1 = nI m) = False := n_m1' (by omega)
          exact (h4 ▸ q : False).elim
        · rw [z2, n_eq (by omega) (by omega)] at q
          subst q
          exact end_ σ1 g1 g3 q5 z4 z5
      · have er1 := (g1.1.2.2.2.2 i hi).2.2
        refine ⟨(i, m), ⟨hi, q5, hm⟩, g1.1, g1.2.1, er1, rfl, fun σ2 k1 k2 k3 => ?_⟩
        have hM2 : rs_M a σ2 := by
          intro j hj
          by_cases hb : (ab_ring a i).testBit j = true
          · obtain ⟨e1, e2, e3⟩ := k1 j hj hb
            have es := ring_same hi hb
            refine Or.inr ⟨m, hm, e1, by rw [es]; exact q5, ?_, ?_⟩
            · exact e2.trans (an_dr_ring es).symm
            · exact e3.trans (an_dr_ring es).symm
          · obtain ⟨e1, e2, e3⟩ := k2 j hj hb
            rw [e1, e2, e3]
            exact g2 j hj
        have hI2 : rc_I a b n σ2 := g1.mod (k3.mono (by decide) (by decide)) (fun now _ hM => by
          unfold rc_M at *
          rw [k3 28 7 (by decide) (by decide)]
          exact hM.imp (fun _ => hM2))
        obtain ⟨-, e2, e3⟩ := k1 i hi (ring_self hi)
        exact end_ σ2 hI2 (g3.tr (k3.hi (by decide))) q5 e2 e3
    · have h9 := hZ σ hI ra_up.rf
      unfold an_dr at h9
      rw [if_pos (by omega)] at h9
      exact h9
  · rw [an_dry_no hy] at hZ
    have h9 := hZ σ hI ra_up.rf
    simp (disch := omega) only [b_R_dry_103, b_R_dry_94, b_R_dry_82, b_R_dry_78, b_R_dry_61, b_R_dry_49, b_R_dry_46, b_R_dry_27, b_R_dry_18, b_R_dry_8, b_R_dry_0, e_al0, e_il1, e_il3, e_il2, e_c, e_b1, e_b2, e_gr, e_ald, e_ir, e_cs1, e_cs3, e_cv3, e_hd, e_cv2, e_c10, e_c1i, e_c1r, e_sh0, e_sh1, e_sh2, e_sh3, e_sh4, e_tls, e_tln, e_tl0, e_tl1, cl_0, cl_1, cl_11, ln_11, cl_28, cl_38, ln_38, cl_39, ln_39, tg_0_0, tg_0_3, tg_1_7, tg_28_4, tg_28_5, q_R_isNoHouse, q_R_isOutside, q_J_bitCount, q_Mo_isTried, q_Mo_tryAll, Nat.reduceAdd, true_and, and_true, true_implies, not_true_eq_false, false_implies, not_false_eq_true, imp_self, forall_const, List.append_nil, ra_I, ra_J, ra_pad, true_or, or_true, Nat.reduceEqDiff, ra_bz, eq_self, if_true, if_false, false_and, and_false, Nat.zero_le, List.cons_append, List.nil_append, Nat.reduceLT, Nat.reduceLeDiff, Nat.reduceMul, Nat.reduceSub, n_0, n_1, n_2, n_3, n_4, n_5, n_6, n_7, n_8, n_9, n_10, n_12, n_40, n_48, n_57, n_59, n_72, n_99, n_102, n_103, n_107, n_108, n_192, n_255, n_256, n_999, n_1000, n_104, nI_add, pk_mul, n_cl, n_inT, n_le, n_lt, n_eq, n_m1, n_m1', n_lem1, n_m1le, n_ltm1, n_m1lt, n_lepred, n_shl, fa_or]
    refine ⟨hI.1, fun _ => h9, fun q => ⟨fun _ => h9, fun q2 => ⟨fun _ => h9, fun q3 => absurd ⟨Classical.not_not.mp q, Classical.not_not.mp q2, Classical.not_not.mp q3⟩ hy⟩⟩⟩
