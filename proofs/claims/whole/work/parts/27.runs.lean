/-- how the reference's rows stand for a state of the rains -/
def rn_M (a : Ab) (m : Sm) (σ : ra_St) : Prop := ∀ h, h < ab_hc a → σ 93 h = nI (m.1 h) ∧ σ 94 h = nI (m.2.1 h) ∧ σ 95 h = nI (m.2.2.1 h) ∧ σ 96 h = nI (m.2.2.2.1 h) ∧ σ 98 h = nI (if m.2.2.2.2 h = true then 1 else 0)
def sp_N_runs (a : Ab) : ra_Sp := ra_f1 82 (fun x σ Z => ∃ te : Nat → Nat, rn_R a σ ∧ rn_P a σ ∧ (∀ h, h < ab_hc a → σ 92 h = nI (te h) ∧ te h ≤ 3) ∧ 0 ≤ x ∧ x ≤ nI (a 3 0) ∧ ∀ σ', rn_M a (sm a te x.toNatClampNeg) σ' → ra_fr [93, 94, 95, 96, 97, 98, 99] σ σ' → σ' 82 2 = σ 82 2 → Z none σ')
theorem q_N_runs {a : Ab} {oo : Nat} {x : Int32} {σ : ra_St} {Z : ra_R} : sp_N_runs a [.ref oo, .int x] σ Z = (oo = 82 ∧ (∃ te : Nat → Nat, rn_R a σ ∧ rn_P a σ ∧ (∀ h, h < ab_hc a → σ 92 h = nI (te h) ∧ te h ≤ 3) ∧ 0 ≤ x ∧ x ≤ nI (a 3 0) ∧ ∀ σ', rn_M a (sm a te x.toNatClampNeg) σ' → ra_fr [93, 94, 95, 96, 97, 98, 99] σ σ' → σ' 82 2 = σ 82 2 → Z none σ')) := rfl
/-- what stays through all -/
def rn_runs (a : Ab) (te : Nat → Nat) (σ0 σ : ra_St) : Prop := rn_R a σ ∧ rn_P a σ ∧ (∀ h, h < ab_hc a → σ 92 h = nI (te h) ∧ te h ≤ 3) ∧ ra_fr [93, 94, 95, 96, 97, 98, 99] σ0 σ ∧ σ 82 2 = σ0 82 2
theorem rn_runs.sw {a : Ab} {te : Nat → Nat} {σ0 σ : ra_St} {c i : Nat} {v : Int32} (h : rn_runs a te σ0 σ) (hc : c ∈ [93, 94, 95, 96, 97, 98, 99]) : rn_runs a te σ0 (ra_sw σ c i v) := by
  obtain ⟨h1, ⟨⟨h2, h3⟩, h4⟩, h5, h6, h7⟩ := h
  have hne : ∀ d, d ∉ [93, 94, 95, 96, 97, 98, 99] → ra_sw σ c i v d = σ d := fun d hd => ra_su_ne _ _ (fun e => hd (by rw [e]; exact hc))
  have hf : ra_fr [93, 94, 95, 96, 97, 98, 99] σ (ra_sw σ c i v) := ra_fr.rf.sw hc (fun e => by rw [e] at hc; simp at hc)
  refine ⟨h1.fr hf (by decide), ⟨⟨?_, ?_⟩, ?_⟩, ?_, h6.sw hc (fun e => by rw [e] at hc; simp at hc), ?_⟩
  · rw [hne 82 (by decide)]; exact h2
  · rw [hne 85 (by decide), hne 86 (by decide), hne 87 (by decide)]; exact h3
  · rw [hne 88 (by decide)]; exact h4
  · rw [hne 92 (by decide)]; exact h5
  · rw [hne 82 (by decide)]; exact h7
def I_N_runs (a : Ab) (Z : ra_R) (as : List Value) (σ0 : ra_St) (t : Nat) (μ : ra_M) : ra_K := fun L S σ => S = [] ∧ ∃ (te : Nat → Nat) (mn h k : Nat) (u v w : Value), mn ≤ a 3 0 ∧ h ≤ ab_hc a ∧ as = [.ref 82, .int (nI mn)] ∧ (∀ σ', rn_M a (sm a te mn) σ' → ra_fr [93, 94, 95, 96, 97, 98, 99] σ0 σ' → σ' 82 2 = σ0 82 2 → Z none σ') ∧ rn_runs a te σ0 σ ∧
  match t with
  | 2 => μ = (mn + 1, 0, ab_hc a - h) ∧ L = [.ref 82, .int (nI mn), .int (nI h), u, v, w] ∧ ∀ j, j < h → σ 93 j = nI (ab_tl a j) ∧ σ 94 j = nI (ab_pu a j) ∧ σ 95 j = nI 0 ∧ σ 96 j = nI 0 ∧ σ 98 j = nI 0
  | 63 => μ = (mn - k, 5, 0) ∧ k ≤ mn ∧ L = [.ref 82, .int (nI mn), .int (nI k), u, v, w] ∧ rn_M a (sm a te k) σ
  | 70 => μ = (mn - k, 4, ab_hc a - h) ∧ k < mn ∧ L = [.ref 82, .int (nI mn), .int (nI k), .int (nI h), v, w] ∧ ∀ j, j < ab_hc a → σ 93 j = nI ((sm a te k).1 j) ∧ σ 94 j = nI ((sm a te k).2.1 j) ∧ σ 95 j = nI (if j < h then (sm a te (k + 1)).2.2.1 j else (sm a te k).2.2.1 j) ∧ σ 96 j = nI ((sm a te k).2.2.2.1 j) ∧ σ 98 j = nI (if (sm a te k).2.2.2.2 j = true then 1 else 0) ∧ (j < h → σ 97 j = nI (a 4 k - (sm a te k).1 j))
  | 139 => μ = (mn - k, 3, ab_hc a - h) ∧ k < mn ∧ L = [.ref 82, .int (nI mn), .int (nI k), .int (nI h), v, w] ∧ ∀ j, j < ab_hc a → σ 93 j = nI ((sm a te k).1 j) ∧ σ 94 j = nI ((sm a te k).2.1 j) ∧ σ 95 j = nI ((sm a te (k + 1)).2.2.1 j) ∧ σ 96 j = nI ((sm a te k).2.2.2.1 j) ∧ σ 98 j = nI (if (sm a te k).2.2.2.2 j = true then 1 else 0) ∧ σ 97 j = nI (a 4 k - (sm a te k).1 j) ∧ (ab_on a j < h → σ 99 j = nI (if (sm a te (k + 1)).2.2.2.2 j = true then 1 else 0))
  | 185 => μ = (mn - k, 2, ab_hc a - h) ∧ k < mn ∧ L = [.ref 82, .int (nI mn), .int (nI k), .int (nI h), v, w] ∧ ∀ j, j < ab_hc a → σ 93 j = nI (if ab_on a j < h then (sm a te (k + 1)).1 j else (sm a te k).1 j) ∧ σ 94 j = nI (if j < h then (sm a te (k + 1)).2.1 j else (sm a te k).2.1 j) ∧ σ 95 j = nI ((sm a te (k + 1)).2.2.1 j) ∧ σ 96 j = nI (if ab_on a j < h then (sm a te (k + 1)).2.2.2.1 j else (sm a te k).2.2.2.1 j) ∧ σ 97 j = nI (a 4 k - (sm a te k).1 j) ∧ σ 99 j = nI (if (sm a te (k + 1)).2.2.2.2 j = true then 1 else 0)
  | _ => μ = (mn - k, 1, ab_hc a - h) ∧ k < mn ∧ L = [.ref 82, .int (nI mn), .int (nI k), .int (nI h), v, w] ∧ ∀ j, j < ab_hc a → σ 93 j = nI ((sm a te (k + 1)).1 j) ∧ σ 94 j = nI ((sm a te (k + 1)).2.1 j) ∧ σ 95 j = nI ((sm a te (k + 1)).2.2.1 j) ∧ σ 96 j = nI ((sm a te (k + 1)).2.2.2.1 j) ∧ σ 99 j = nI (if (sm a te (k + 1)).2.2.2.2 j = true then 1 else 0) ∧ (j < h → σ 98 j = nI (if (sm a te (k + 1)).2.2.2.2 j = true then 1 else 0))
theorem k_N_runs {l : Launch} {X : ra_X} {a : Ab} (hW : ab_W a) : ra_MOK l X mi_N_runs (sp_N_runs a) := by
  have h8 := ab_hc_8 a
  have hr12 := hW.2.2.2.2.1
  refine g_N_runs (k_N_doesLay hW) (sp_N_runs a) (I_N_runs a) ?_ ?_ ?_ ?_ ?_ ?_ ?_
  · intro as σ Z _ _ h
    obtain ⟨x, rfl, te, hR, hP, hte, hx, hx2, hZ⟩ := x_f1 h
    obtain ⟨mn, hm, rfl⟩ := nI_of (fun q => (fa_of_lt q).2.1 hx)
    rw [n_le hm (by omega)] at hx2
    rw [n_cl (by omega)] at hZ
    simp only [b_N_runs_356, b_N_runs_350, b_N_runs_332, b_N_runs_324, b_N_runs_322, b_N_runs_296, b_N_runs_295, b_N_runs_291, b_N_runs_269, b_N_runs_268, b_N_runs_264, b_N_runs_254, b_N_runs_244, b_N_runs_234, b_N_runs_193, b_N_runs_185, b_N_runs_183, b_N_runs_176, b_N_runs_175, b_N_runs_171, b_N_runs_147, b_N_runs_139, b_N_runs_137, b_N_runs_115, b_N_runs_114, b_N_runs_98, b_N_runs_78, b_N_runs_70, b_N_runs_68, b_N_runs_63, b_N_runs_61, b_N_runs_10, b_N_runs_2, b_N_runs_0, e_al0, e_il3, e_il4, e_il5, e_il2, e_il1, e_is3i, e_is3r, e_is3n, e_is5i, e_is5r, e_is5n, e_is4i, e_is4r, e_is4n, e_is2i, e_is2r, e_is2n, e_inc2i, e_inc2r, e_inc2n, e_inc3i, e_inc3r, e_inc3n, e_c, e_i2, e_dup2, e_b1, e_b2, e_gi, e_gr, e_ald, e_ast, e_vr, e_cv3, e_hd, e_c10, e_c1i, e_c1r, e_sh0, e_sh1, e_sh2, e_sh3, e_sh4, e_tls, e_tln, e_tl0, e_tl1, cl_82, cl_85, ln_85, cl_86, ln_86, cl_88, ln_88, cl_89, ln_89, cl_90, ln_90, cl_93, ln_93, cl_94, ln_94, cl_95, ln_95, cl_96, ln_96, cl_97, ln_97, cl_98, ln_98, cl_99, ln_99, tg_82_3, tg_82_4, tg_82_6, tg_82_8, tg_82_9, tg_82_12, tg_82_13, tg_82_14, tg_82_15, tg_82_16, tg_82_17, tg_82_18, q_N_doesLay, Nat.reduceAdd, true_and, and_true, true_implies, not_true_eq_false, false_implies, not_false_eq_true, imp_self, forall_const, List.append_nil, ra_I, ra_J, ra_pad, true_or, or_true, Nat.reduceEqDiff, ra_bz, eq_self, if_true, if_false, false_and, and_false, Nat.zero_le, List.cons_append, List.nil_append, Nat.reduceLT, Nat.reduceLeDiff, Nat.reduceMul, Nat.reduceSub]
    exact ⟨_, rfl, te, mn, 0, 0, _, _, _, hx2, by omega, rfl, hZ, ⟨hR, hP, hte, ra_fr.rf, rfl⟩, rfl, rfl, fun j hj => by omega⟩
  · intro as σ0 Z _ μ L S σ hI
    obtain ⟨rfl, te, mn, h, k, u, v, w, hmn, hh, rfl, hZ, hr, rfl, rfl, hq⟩ := hI
    obtain ⟨hR, ⟨⟨hH, hHH⟩, hO⟩, hte, -, -⟩ := id hr
    simp (disch := omega) only [b_N_runs_356, b_N_runs_350, b_N_runs_332, b_N_runs_324, b_N_runs_322, b_N_runs_296, b_N_runs_295, b_N_runs_291, b_N_runs_269, b_N_runs_268, b_N_runs_264, b_N_runs_254, b_N_runs_244, b_N_runs_234, b_N_runs_193, b_N_runs_185, b_N_runs_183, b_N_runs_176, b_N_runs_175, b_N_runs_171, b_N_runs_147, b_N_runs_139, b_N_runs_137, b_N_runs_115, b_N_runs_114, b_N_runs_98, b_N_runs_78, b_N_runs_70, b_N_runs_68, b_N_runs_63, b_N_runs_61, b_N_runs_10, b_N_runs_2, b_N_runs_0, e_al0, e_il3, e_il4, e_il5, e_il2, e_il1, e_is3i, e_is3r, e_is3n, e_is5i, e_is5r, e_is5n, e_is4i, e_is4r, e_is4n, e_is2i, e_is2r, e_is2n, e_inc2i, e_inc2r, e_inc2n, e_inc3i, e_inc3r, e_inc3n, e_c, e_i2, e_dup2, e_b1, e_b2, e_gi, e_gr, e_ald, e_ast, e_vr, e_cv3, e_hd, e_c10, e_c1i, e_c1r, e_sh0, e_sh1, e_sh2, e_sh3, e_sh4, e_tls, e_tln, e_tl0, e_tl1, cl_82, cl_85, ln_85, cl_86, ln_86, cl_88, ln_88, cl_89, ln_89, cl_90, ln_90, cl_93, ln_93, cl_94, ln_94, cl_95, ln_95, cl_96, ln_96, cl_97, ln_97, cl_98, ln_98, cl_99, ln_99, tg_82_3, tg_82_4, tg_82_6, tg_82_8, tg_82_9, tg_82_12, tg_82_13, tg_82_14, tg_82_15, tg_82_16, tg_82_17, tg_82_18, q_N_doesLay, Nat.reduceAdd, true_and, and_true, true_implies, not_true_eq_false, false_implies, not_false_eq_true, imp_self, forall_const, List.append_nil, ra_I, ra_J, ra_pad, true_or, or_true, Nat.reduceEqDiff, ra_bz, eq_self, if_true, if_false, false_and, and_false, Nat.zero_le, List.cons_append, List.nil_append, Nat.reduceLT, Nat.reduceLeDiff, Nat.reduceMul, Nat.reduceSub, n_0, n_1, n_2, n_3, n_4, n_5, n_6, n_7, n_8, n_9, n_10, n_12, n_40, n_48, n_57, n_59, n_72, n_99, n_102, n_103, n_107, n_108, n_192, n_255, n_256, n_999, n_1000, n_104, nI_add, pk_mul, n_cl, n_inT, n_le, n_lt, n_eq, n_m1, n_m1', n_lem1, n_m1le, n_ltm1, n_m1lt, n_lepred, n_shl, fa_or, hH]
    refine ⟨fun q => ⟨(mn - 0, 5, 0), lx1 (by omega), rfl, te, mn, h, 0, _, _, _, hmn, hh, rfl, hZ, hr, rfl, by omega, rfl, fun j hj => ?_⟩, fun q => ?_⟩
    · have := hq j (by omega)
      simpa [sm] using this
    · obtain ⟨g1, g2, g3⟩ := hHH h (by omega)
      simp only [vi (show h < 9 by omega) (by decide), true_and, sw_at, Nat.reduceEqDiff, if_false, g1, g2]
      refine ⟨(mn + 1, 0, ab_hc a - (h + 1)), lx3 (by omega), rfl, te, mn, h + 1, k, u, v, w, hmn, by omega, rfl, hZ, ((((hr.sw (by decide)).sw (by decide)).sw (by decide)).sw (by decide)).sw (by decide), rfl, rfl, fun j hj => ?_⟩
      by_cases e : j = h
      · subst e
        simp [sw_at]
      · have := hq j (by omega)
        simpa [sw_at, e] using this
  · -- 63: a rain more
    intro as σ0 Z _ μ L S σ hI
    obtain ⟨rfl, te, mn, h, k, u, v, w, hmn, hh, rfl, hZ, hr, rfl, hk, rfl, hq⟩ := hI
    simp (disch := omega) only [b_N_runs_356, b_N_runs_350, b_N_runs_332, b_N_runs_324, b_N_runs_322, b_N_runs_296, b_N_runs_295, b_N_runs_291, b_N_runs_269, b_N_runs_268, b_N_runs_264, b_N_runs_254, b_N_runs_244, b_N_runs_234, b_N_runs_193, b_N_runs_185, b_N_runs_183, b_N_runs_176, b_N_runs_175, b_N_runs_171, b_N_runs_147, b_N_runs_139, b_N_runs_137, b_N_runs_115, b_N_runs_114, b_N_runs_98, b_N_runs_78, b_N_runs_70, b_N_runs_68, b_N_runs_63, b_N_runs_61, b_N_runs_10, b_N_runs_2, b_N_runs_0, e_al0, e_il3, e_il4, e_il5, e_il2, e_il1, e_is3i, e_is3r, e_is3n, e_is5i, e_is5r, e_is5n, e_is4i, e_is4r, e_is4n, e_is2i, e_is2r, e_is2n, e_inc2i, e_inc2r, e_inc2n, e_inc3i, e_inc3r, e_inc3n, e_c, e_i2, e_dup2, e_b1, e_b2, e_gi, e_gr, e_ald, e_ast, e_vr, e_cv3, e_hd, e_c10, e_c1i, e_c1r, e_sh0, e_sh1, e_sh2, e_sh3, e_sh4, e_tls, e_tln, e_tl0, e_tl1, cl_82, cl_85, ln_85, cl_86, ln_86, cl_88, ln_88, cl_89, ln_89, cl_90, ln_90, cl_93, ln_93, cl_94, ln_94, cl_95, ln_95, cl_96, ln_96, cl_97, ln_97, cl_98, ln_98, cl_99, ln_99, tg_82_3, tg_82_4, tg_82_6, tg_82_8, tg_82_9, tg_82_12, tg_82_13, tg_82_14, tg_82_15, tg_82_16, tg_82_17, tg_82_18, q_N_doesLay, Nat.reduceAdd, true_and, and_true, true_implies, not_true_eq_false, false_implies, not_false_eq_true, imp_self, forall_const, List.append_nil, ra_I, ra_J, ra_pad, true_or, or_true, Nat.reduceEqDiff, ra_bz, eq_self, if_true, if_false, false_and, and_false, Nat.zero_le, List.cons_append, List.nil_append, Nat.reduceLT, Nat.reduceLeDiff, Nat.reduceMul, Nat.reduceSub, n_0, n_1, n_2, n_3, n_4, n_5, n_6, n_7, n_8, n_9, n_10, n_12, n_40, n_48, n_57, n_59, n_72, n_99, n_102, n_103, n_107, n_108, n_192, n_255, n_256, n_999, n_1000, n_104, nI_add, pk_mul, n_cl, n_inT, n_le, n_lt, n_eq, n_m1, n_m1', n_lem1, n_m1le, n_ltm1, n_m1lt, n_lepred, n_shl, fa_or]
    refine ⟨fun q => hZ σ ?_ hr.2.2.2.1 hr.2.2.2.2, fun q => ⟨(mn - k, 4, ab_hc a - 0), lx2 (by omega), rfl, te, mn, 0, k, u, v, w, hmn, by omega, rfl, hZ, hr, rfl, by omega, rfl, fun j hj => ?_⟩⟩
    · rw [show mn = k by omega]
      exact hq
    · have := hq j hj
      simpa using this
  · -- 70: leaks
    intro as σ0 Z _ μ L S σ hI
    obtain ⟨rfl, te, mn, h, k, u, v, w, hmn, hh, rfl, hZ, hr, rfl, hk, rfl, hq⟩ := hI
    obtain ⟨hR, ⟨⟨hH, hHH⟩, hO⟩, hte, -, -⟩ := id hr
    simp (disch := omega) only [b_N_runs_356, b_N_runs_350, b_N_runs_332, b_N_runs_324, b_N_runs_322, b_N_runs_296, b_N_runs_295, b_N_runs_291, b_N_runs_269, b_N_runs_268, b_N_runs_264, b_N_runs_254, b_N_runs_244, b_N_runs_234, b_N_runs_193, b_N_runs_185, b_N_runs_183, b_N_runs_176, b_N_runs_175, b_N_runs_171, b_N_runs_147, b_N_runs_139, b_N_runs_137, b_N_runs_115, b_N_runs_114, b_N_runs_98, b_N_runs_78, b_N_runs_70, b_N_runs_68, b_N_runs_63, b_N_runs_61, b_N_runs_10, b_N_runs_2, b_N_runs_0, e_al0, e_il3, e_il4, e_il5, e_il2, e_il1, e_is3i, e_is3r, e_is3n, e_is5i, e_is5r, e_is5n, e_is4i, e_is4r, e_is4n, e_is2i, e_is2r, e_is2n, e_inc2i, e_inc2r, e_inc2n, e_inc3i, e_inc3r, e_inc3n, e_c, e_i2, e_dup2, e_b1, e_b2, e_gi, e_gr, e_ald, e_ast, e_vr, e_cv3, e_hd, e_c10, e_c1i, e_c1r, e_sh0, e_sh1, e_sh2, e_sh3, e_sh4, e_tls, e_tln, e_tl0, e_tl1, cl_82, cl_85, ln_85, cl_86, ln_86, cl_88, ln_88, cl_89, ln_89, cl_90, ln_90, cl_93, ln_93, cl_94, ln_94, cl_95, ln_95, cl_96, ln_96, cl_97, ln_97, cl_98, ln_98, cl_99, ln_99, tg_82_3, tg_82_4, tg_82_6, tg_82_8, tg_82_9, tg_82_12, tg_82_13, tg_82_14, tg_82_15, tg_82_16, tg_82_17, tg_82_18, q_N_doesLay, Nat.reduceAdd, true_and, and_true, true_implies, not_true_eq_false, false_implies, not_false_eq_true, imp_self, forall_const, List.append_nil, ra_I, ra_J, ra_pad, true_or, or_true, Nat.reduceEqDiff, ra_bz, eq_self, if_true, if_false, false_and, and_false, Nat.zero_le, List.cons_append, List.nil_append, Nat.reduceLT, Nat.reduceLeDiff, Nat.reduceMul, Nat.reduceSub, n_0, n_1, n_2, n_3, n_4, n_5, n_6, n_7, n_8, n_9, n_10, n_12, n_40, n_48, n_57, n_59, n_72, n_99, n_102, n_103, n_107, n_108, n_192, n_255, n_256, n_999, n_1000, n_104, nI_add, pk_mul, n_cl, n_inT, n_le, n_lt, n_eq, n_m1, n_m1', n_lem1, n_m1le, n_ltm1, n_m1lt, n_lepred, n_shl, fa_or, hH]
    refine ⟨fun q => ⟨(mn - k, 3, ab_hc a - 0), lx2 (by omega), rfl, te, mn, 0, k, u, v, w, hmn, by omega, rfl, hZ, hr, rfl, by omega, rfl, fun j hj => ?_⟩, fun q => ?_⟩
    · obtain ⟨g1, g2, g3, g4, g5, g6⟩ := hq j hj
      rw [if_pos (by omega)] at g3
      exact ⟨g1, g2, g3, g4, g5, g6 (by omega), fun z => by omega⟩
    · obtain ⟨g1, g2, g3, g4, g5, g6⟩ := hq h (by omega)
      rw [if_neg (by omega)] at g3
      have b1 := sm_bd hW te k h (by omega)
      have b2 := hW.2.2.2.2.2.1 k
      have key : ∀ x, x = nI (a 4 k - (sm a te k).1 h) → ∃ μ', ra_lx μ' (mn - k, 4, ab_hc a - h) ∧ I_N_runs a Z [Value.ref 82, Value.int (nI mn)] σ0 70 μ' [Value.ref 82, Value.int (nI mn), Value.int (nI k), Value.int (nI (h + 1)), v, w] [] (ra_sw (ra_sw σ 97 h x) 95 h (nI ((sm a te k).2.2.1 h) + x)) := by
        intro x hx
        refine ⟨(mn - k, 4, ab_hc a - (h + 1)), lx3 (by omega), rfl, te, mn, h + 1, k, u, v, w, hmn, by omega, rfl, hZ, (hr.sw (by decide)).sw (by decide), rfl, by omega, rfl, fun j hj => ?_⟩
        obtain ⟨e1, e2, e3, e4, e5, e6⟩ := hq j hj
        simp only [sw_at, Nat.reduceEqDiff, if_false, if_true, e1, e2, e3, e4, e5, true_and]
        refine ⟨?_, fun z => ?_⟩
        · by_cases e : j = h
          · subst e
            rw [if_pos rfl, if_pos (by omega), hx, nI_add]
            rfl
          · rw [if_neg e]
            by_cases e' : j < h
            · rw [if_pos e', if_pos (by omega)]
            · rw [if_neg e', if_neg (by omega)]
        · by_cases e : j = h
          · subst e
            rw [if_pos rfl, hx]
          · rw [if_neg e]
            exact e6 (by omega)
      have hs := hR.2.2.1 k (by omega)
      simp (disch := omega) only [vi (show h < 9 by omega) (by decide), vi (show k < 12 by omega) (by decide), true_and, sw_at, Nat.reduceEqDiff, if_false, if_true, g1, g3, hs, n_le]
      refine ⟨fun z => key _ ?_, fun z => ?_⟩
      · rw [show a 4 k - (sm a te k).1 h = 0 by omega]
      · rw [n_sub (by omega)]
        exact key _ rfl
  · -- 139: who lays
    intro as σ0 Z _ μ L S σ hI
    obtain ⟨rfl, te, mn, h, k, u, v, w, hmn, hh, rfl, hZ, hr, rfl, hk, rfl, hq⟩ := hI
    obtain ⟨hR, ⟨⟨hH, hHH⟩, hO⟩, hte, -, -⟩ := id hr
    simp (disch := omega) only [b_N_runs_356, b_N_runs_350, b_N_runs_332, b_N_runs_324, b_N_runs_322, b_N_runs_296, b_N_runs_295, b_N_runs_291, b_N_runs_269, b_N_runs_268, b_N_runs_264, b_N_runs_254, b_N_runs_244, b_N_runs_234, b_N_runs_193, b_N_runs_185, b_N_runs_183, b_N_runs_176, b_N_runs_175, b_N_runs_171, b_N_runs_147, b_N_runs_139, b_N_runs_137, b_N_runs_115, b_N_runs_114, b_N_runs_98, b_N_runs_78, b_N_runs_70, b_N_runs_68, b_N_runs_63, b_N_runs_61, b_N_runs_10, b_N_runs_2, b_N_runs_0, e_al0, e_il3, e_il4, e_il5, e_il2, e_il1, e_is3i, e_is3r, e_is3n, e_is5i, e_is5r, e_is5n, e_is4i, e_is4r, e_is4n, e_is2i, e_is2r, e_is2n, e_inc2i, e_inc2r, e_inc2n, e_inc3i, e_inc3r, e_inc3n, e_c, e_i2, e_dup2, e_b1, e_b2, e_gi, e_gr, e_ald, e_ast, e_vr, e_cv3, e_hd, e_c10, e_c1i, e_c1r, e_sh0, e_sh1, e_sh2, e_sh3, e_sh4, e_tls, e_tln, e_tl0, e_tl1, cl_82, cl_85, ln_85, cl_86, ln_86, cl_88, ln_88, cl_89, ln_89, cl_90, ln_90, cl_93, ln_93, cl_94, ln_94, cl_95, ln_95, cl_96, ln_96, cl_97, ln_97, cl_98, ln_98, cl_99, ln_99, tg_82_3, tg_82_4, tg_82_6, tg_82_8, tg_82_9, tg_82_12, tg_82_13, tg_82_14, tg_82_15, tg_82_16, tg_82_17, tg_82_18, q_N_doesLay, Nat.reduceAdd, true_and, and_true, true_implies, not_true_eq_false, false_implies, not_false_eq_true, imp_self, forall_const, List.append_nil, ra_I, ra_J, ra_pad, true_or, or_true, Nat.reduceEqDiff, ra_bz, eq_self, if_true, if_false, false_and, and_false, Nat.zero_le, List.cons_append, List.nil_append, Nat.reduceLT, Nat.reduceLeDiff, Nat.reduceMul, Nat.reduceSub, n_0, n_1, n_2, n_3, n_4, n_5, n_6, n_7, n_8, n_9, n_10, n_12, n_40, n_48, n_57, n_59, n_72, n_99, n_102, n_103, n_107, n_108, n_192, n_255, n_256, n_999, n_1000, n_104, nI_add, pk_mul, n_cl, n_inT, n_le, n_lt, n_eq, n_m1, n_m1', n_lem1, n_m1le, n_ltm1, n_m1lt, n_lepred, n_shl, fa_or, hH]
    refine ⟨fun q => ⟨(mn - k, 2, ab_hc a - 0), lx2 (by omega), rfl, te, mn, 0, k, u, v, w, hmn, by omega, rfl, hZ, hr, rfl, by omega, rfl, fun j hj => ?_⟩, fun q => ?_⟩
    · obtain ⟨g1, g2, g3, g4, g5, g6, g7⟩ := hq j hj
      exact ⟨g1, g2, g3, g4, g6, g7 (by have := (ab_on_spec hj).1; omega)⟩
    · have hh' : h < ab_hc a := by omega
      have how := ab_ow_lt hh'
      have b2 := hW.2.2.2.2.2.1 k
      simp (disch := omega) only [vi (show h < 9 by omega) (by decide), true_and, hO h hh', n_inT, n_cl]
      refine ⟨te, a 4 k, sm a te k, b2, ⟨hR.2.2.2.1, fun j hj => ?_⟩, ?_, ?_⟩
      · obtain ⟨g1, g2, g3, g4, g5, g6, g7⟩ := hq j hj
        have b1 := sm_bd hW te k j hj
        exact ⟨(hte j hj).1, (hte j hj).2, g1, g2, g6, g5, b1.1, b1.2.1⟩
      · intro z
        refine ⟨(mn - k, 3, ab_hc a - (h + 1)), lx3 (by omega), rfl, te, mn, h + 1, k, u, v, w, hmn, by omega, rfl, hZ, hr.sw (by decide), rfl, by omega, rfl, fun j hj => ?_⟩
        obtain ⟨e1, e2, e3, e4, e5, e6, e7⟩ := hq j hj
        simp only [sw_at, Nat.reduceEqDiff, if_false, if_true, e1, e2, e3, e4, e5, e6, true_and]
        intro y
        by_cases e : j = ab_ow a h
        · rw [if_pos e, e]
          show nI 1 = nI (if sm_lay a te (a 4 k) (sm a te k) (ab_ow a h) = true then 1 else 0)
          rw [if_pos z]
        · rw [if_neg e]
          exact e7 (by have := (ab_on_spec hj).2; rcases (show ab_on a j < h ∨ ab_on a j = h by omega) with y' | y'; exact y'; rw [y'] at this; exact absurd this.symm e)
      · intro z
        refine ⟨(mn - k, 3, ab_hc a - (h + 1)), lx3 (by omega), rfl, te, mn, h + 1, k, u, v, w, hmn, by omega, rfl, hZ, hr.sw (by decide), rfl, by omega, rfl, fun j hj => ?_⟩
        obtain ⟨e1, e2, e3, e4, e5, e6, e7⟩ := hq j hj
        simp only [sw_at, Nat.reduceEqDiff, if_false, if_true, e1, e2, e3, e4, e5, e6, true_and]
        intro y
        by_cases e : j = ab_ow a h
        · rw [if_pos e, e]
          show nI 0 = nI (if sm_lay a te (a 4 k) (sm a te k) (ab_ow a h) = true then 1 else 0)
          rw [if_neg z]
        · rw [if_neg e]
          exact e7 (by have := (ab_on_spec hj).2; rcases (show ab_on a j < h ∨ ab_on a j = h by omega) with y' | y'; exact y'; rw [y'] at this; exact absurd this.symm e)
  · -- 185: what is paid and worn
    intro as σ0 Z _ μ L S σ hI
    obtain ⟨rfl, te, mn, h, k, u, v, w, hmn, hh, rfl, hZ, hr, rfl, hk, rfl, hq⟩ := hI
    obtain ⟨hR, ⟨⟨hH, hHH⟩, hO⟩, hte, -, -⟩ := id hr
    by_cases hh' : h < ab_hc a
    · have how := ab_ow_lt hh'
      have hon := ab_on_ow hh'
      have b2 := hW.2.2.2.2.2.1 k
      have b3 := hW.2.2.2.2.2.2.2.1
      have b4 := hW.2.2.2.2.2.2.2.2.1
      have b1 := sm_bd hW te k (ab_ow a h) how
      have b1' := sm_bd hW te k h hh'
      generalize hr' : ab_ow a h = r at how hon b1
      obtain ⟨r1, r2, r3, r4, r5, r6⟩ := hq r how
      obtain ⟨p1, p2, p3, p4, p5, p6⟩ := hq h hh'
      rw [hon, if_neg (by omega)] at r1 r4
      rw [if_neg (by omega)] at p2
      have hB : (sm a te (k + 1)).2.2.2.2 r = sm_lay a te (a 4 k) (sm a te k) r := rfl
      rw [hB] at r6
      generalize hl : sm_lay a te (a 4 k) (sm a te k) r = lay at r6 hB
      have hP' : (sm a te (k + 1)).2.1 h = if lay = true then (sm a te k).2.1 h - a 5 0 else (sm a te k).2.1 h := by
        show (if sm_lay a te (a 4 k) (sm a te k) (ab_ow a h) = true then _ else _) = _
        rw [hr', hl]
      have hT' : (sm a te (k + 1)).1 r = if lay = true then (sm a te k).1 r + 1 else if a 5 1 = 1 ∧ 0 < a 4 k - (sm a te k).1 r ∧ 0 < (sm a te k).1 r then (sm a te k).1 r - 1 else (sm a te k).1 r := by
        show (if sm_lay a te (a 4 k) (sm a te k) r = true then _ else _) = _
        rw [hl]
      have hL' : (sm a te (k + 1)).2.2.2.1 r = (sm a te k).2.2.2.1 r + (if lay = true then 1 else 0) := by
        show _ + (if sm_lay a te (a 4 k) (sm a te k) r = true then 1 else 0) = _
        rw [hl]
      have hpay : lay = true → a 5 0 ≤ (sm a te k).2.1 h ∧ (sm a te k).1 r ≤ 8 := by
        intro z
        have := sm_laid (hl.trans z)
        rw [hon] at this
        exact this
      have hlay01 : (if lay = true then 1 else 0) ≤ 1 := by split <;> omega
      have coin : nI ((sm a te k).2.1 h) - nI ((if lay = true then 1 else 0) * a 5 0) = nI ((sm a te (k + 1)).2.1 h) := by
        rw [hP']
        by_cases z : lay = true
        · rw [if_pos z, if_pos z, n_sub (by have := (hpay z).1; omega), Nat.one_mul]
        · rw [if_neg z, if_neg z, n_sub (by omega), Nat.zero_mul]
          rfl
      have h269 : ∀ x : Nat, x = (if a 5 1 = 1 ∧ lay = false ∧ 0 < a 4 k - (sm a te k).1 r ∧ 0 < (sm a te k).1 r then 1 else 0) → b_N_runs_269 (sp_N_doesLay a) (ra_J (I_N_runs a Z [.ref 82, .int (nI mn)] σ0) (mn - k, 2, ab_hc a - h)) Z [.ref 82, .int (nI mn), .int (nI k), .int (nI h), .int (nI r), w] [.int (nI x)] (ra_sw σ 94 h (nI ((sm a te (k + 1)).2.1 h))) := by
        intro x hx
        have hx1 : x ≤ 1 := by rw [hx]; split <;> omega
        have tile : nI ((sm a te k).1 r) + (nI (if lay = true then 1 else 0) - nI x) = nI ((sm a te (k + 1)).1 r) := by
          rw [hT', hx]
          by_cases z : lay = true
          · rw [if_pos z, if_pos z, if_neg (fun q => by rw [z] at q; exact absurd q.2.1 (by decide)), n_sub (by omega), nI_add]
          · have z' : lay = false := ts_nt' z
            rw [if_neg z, if_neg z]
            by_cases y : a 5 1 = 1 ∧ 0 < a 4 k - (sm a te k).1 r ∧ 0 < (sm a te k).1 r
            · rw [if_pos y, if_pos ⟨y.1, z', y.2⟩]
              have e : (sm a te k).1 r = (sm a te k).1 r - 1 + 1 := by omega
              generalize (sm a te k).1 r - 1 = q at e ⊢
              rw [e, ← nI_1]
              show nI q + 1 + (0 - 1) = nI q
              rw [Int32.add_assoc]
              exact Int32.add_zero _
            · rw [if_neg y, if_neg (fun q => y ⟨q.1, q.2.2⟩), n_sub (by omega), nI_add]
              rfl
        have fin : ∃ μ', ra_lx μ' (mn - k, 2, ab_hc a - h) ∧ I_N_runs a Z [.ref 82, .int (nI mn)] σ0 185 μ' [.ref 82, .int (nI mn), .int (nI k), .int (nI (h + 1)), .int (nI r), .int (nI x)] [] (ra_sw (ra_sw (ra_sw σ 94 h (nI ((sm a te (k + 1)).2.1 h))) 93 r (nI ((sm a te (k + 1)).1 r))) 96 r (nI ((sm a te k).2.2.2.1 r + (if lay = true then 1 else 0)))) := by
          refine ⟨(mn - k, 2, ab_hc a - (h + 1)), lx3 (by omega), rfl, te, mn, h + 1, k, u, .int (nI r), .int (nI x), hmn, by omega, rfl, hZ, ((hr.sw (by decide)).sw (by decide)).sw (by decide), rfl, by omega, rfl, fun j hj => ?_⟩
          obtain ⟨e1, e2, e3, e4, e5, e6⟩ := hq j hj
          have hjr : j = r ↔ ab_on a j = h := ⟨fun e => by rw [e]; exact hon, fun e => by rw [← (ab_on_spec hj).2, e]; exact hr'⟩
          simp only [sw_at, Nat.reduceEqDiff, if_false, if_true, e1, e2, e3, e4, e5, e6, true_and, and_true]
          refine ⟨?_, ?_, ?_⟩
          · by_cases e : j = r
            · rw [if_pos e, if_pos (by have := hjr.mp e; omega), e]
            · rw [if_neg e]
              have : ab_on a j ≠ h := fun z => e (hjr.mpr z)
              by_cases e' : ab_on a j < h
              · rw [if_pos e', if_pos (by omega)]
              · rw [if_neg e', if_neg (by omega)]
          · by_cases e : j = h
            · rw [if_pos e, if_pos (by omega), e]
            · rw [if_neg e]
              by_cases e' : j < h
              · rw [if_pos e', if_pos (by omega)]
              · rw [if_neg e', if_neg (by omega)]
          · by_cases e : j = r
            · rw [if_pos e, if_pos (show ab_on a j < h + 1 by have := hjr.mp e; omega), e, hL']
            · rw [if_neg e]
              have : ab_on a j ≠ h := fun z => e (hjr.mpr z)
              by_cases e' : ab_on a j < h
              · rw [if_pos e', if_pos (by omega)]
              · rw [if_neg e', if_neg (by omega)]
        simp (disch := omega) only [b_N_runs_356, b_N_runs_350, b_N_runs_332, b_N_runs_324, b_N_runs_322, b_N_runs_296, b_N_runs_295, b_N_runs_291, b_N_runs_269, b_N_runs_268, b_N_runs_264, b_N_runs_254, b_N_runs_244, b_N_runs_234, b_N_runs_193, b_N_runs_185, b_N_runs_183, b_N_runs_176, b_N_runs_175, b_N_runs_171, b_N_runs_147, b_N_runs_139, b_N_runs_137, b_N_runs_115, b_N_runs_114, b_N_runs_98, b_N_runs_78, b_N_runs_70, b_N_runs_68, b_N_runs_63, b_N_runs_61, b_N_runs_10, b_N_runs_2, b_N_runs_0, e_al0, e_il3, e_il4, e_il5, e_il2, e_il1, e_is3i, e_is3r, e_is3n, e_is5i, e_is5r, e_is5n, e_is4i, e_is4r, e_is4n, e_is2i, e_is2r, e_is2n, e_inc2i, e_inc2r, e_inc2n, e_inc3i, e_inc3r, e_inc3n, e_c, e_i2, e_dup2, e_b1, e_b2, e_gi, e_gr, e_ald, e_ast, e_vr, e_cv3, e_hd, e_c10, e_c1i, e_c1r, e_sh0, e_sh1, e_sh2, e_sh3, e_sh4, e_tls, e_tln, e_tl0, e_tl1, cl_82, cl_85, ln_85, cl_86, ln_86, cl_88, ln_88, cl_89, ln_89, cl_90, ln_90, cl_93, ln_93, cl_94, ln_94, cl_95, ln_95, cl_96, ln_96, cl_97, ln_97, cl_98, ln_98, cl_99, ln_99, tg_82_3, tg_82_4, tg_82_6, tg_82_8, tg_82_9, tg_82_12, tg_82_13, tg_82_14, tg_82_15, tg_82_16, tg_82_17, tg_82_18, q_N_doesLay, Nat.reduceAdd, true_and, and_true, true_implies, not_true_eq_false, false_implies, not_false_eq_true, imp_self, forall_const, List.append_nil, ra_I, ra_J, ra_pad, true_or, or_true, Nat.reduceEqDiff, ra_bz, eq_self, if_true, if_false, false_and, and_false, Nat.zero_le, List.cons_append, List.nil_append, Nat.reduceLT, Nat.reduceLeDiff, Nat.reduceMul, Nat.reduceSub, n_0, n_1, n_2, n_3, n_4, n_5, n_6, n_7, n_8, n_9, n_10, n_12, n_40, n_48, n_57, n_59, n_72, n_99, n_102, n_103, n_107, n_108, n_192, n_255, n_256, n_999, n_1000, n_104, nI_add, pk_mul, n_cl, n_inT, n_le, n_lt, n_eq, n_m1, n_m1', n_lem1, n_m1le, n_ltm1, n_m1lt, n_lepred, n_shl, fa_or, sw_at, r1, r6, r4]
        refine ⟨fun z => ?_, fun z => ?_⟩
        · rw [← tile, z] at fin
          rw [z]
          exact fin
        · have e : x = 1 := by omega
          rw [← tile, e] at fin
          rw [e]
          exact fin
      simp (disch := omega) only [b_N_runs_356, b_N_runs_350, b_N_runs_332, b_N_runs_324, b_N_runs_322, b_N_runs_296, b_N_runs_295, b_N_runs_291, b_N_runs_268, b_N_runs_264, b_N_runs_254, b_N_runs_244, b_N_runs_234, b_N_runs_193, b_N_runs_185, b_N_runs_183, b_N_runs_176, b_N_runs_175, b_N_runs_171, b_N_runs_147, b_N_runs_139, b_N_runs_137, b_N_runs_115, b_N_runs_114, b_N_runs_98, b_N_runs_78, b_N_runs_70, b_N_runs_68, b_N_runs_63, b_N_runs_61, b_N_runs_10, b_N_runs_2, b_N_runs_0, e_al0, e_il3, e_il4, e_il5, e_il2, e_il1, e_is3i, e_is3r, e_is3n, e_is5i, e_is5r, e_is5n, e_is4i, e_is4r, e_is4n, e_is2i, e_is2r, e_is2n, e_inc2i, e_inc2r, e_inc2n, e_inc3i, e_inc3r, e_inc3n, e_c, e_i2, e_dup2, e_b1, e_b2, e_gi, e_gr, e_ald, e_ast, e_vr, e_cv3, e_hd, e_c10, e_c1i, e_c1r, e_sh0, e_sh1, e_sh2, e_sh3, e_sh4, e_tls, e_tln, e_tl0, e_tl1, cl_82, cl_85, ln_85, cl_86, ln_86, cl_88, ln_88, cl_89, ln_89, cl_90, ln_90, cl_93, ln_93, cl_94, ln_94, cl_95, ln_95, cl_96, ln_96, cl_97, ln_97, cl_98, ln_98, cl_99, ln_99, tg_82_3, tg_82_4, tg_82_6, tg_82_8, tg_82_9, tg_82_12, tg_82_13, tg_82_14, tg_82_15, tg_82_16, tg_82_17, tg_82_18, q_N_doesLay, Nat.reduceAdd, true_and, and_true, true_implies, not_true_eq_false, false_implies, not_false_eq_true, imp_self, forall_const, List.append_nil, ra_I, ra_J, ra_pad, true_or, or_true, Nat.reduceEqDiff, ra_bz, eq_self, if_true, if_false, false_and, and_false, Nat.zero_le, List.cons_append, List.nil_append, Nat.reduceLT, Nat.reduceLeDiff, Nat.reduceMul, Nat.reduceSub, n_0, n_1, n_2, n_3, n_4, n_5, n_6, n_7, n_8, n_9, n_10, n_12, n_40, n_48, n_57, n_59, n_72, n_99, n_102, n_103, n_107, n_108, n_192, n_255, n_256, n_999, n_1000, n_104, nI_add, pk_mul, n_cl, n_inT, n_le, n_lt, n_eq, n_m1, n_m1', n_lem1, n_m1le, n_ltm1, n_m1lt, n_lepred, n_shl, fa_or, hH, hO h hh', hr', sw_at, r1, r5, r6, p2, hR.2.2.2.1, hR.2.2.2.2.1, coin]
      have lf : lay = false ↔ (if lay = true then 1 else 0) = 0 := by cases lay <;> simp
      refine ⟨fun q => by omega, fun q => ⟨fun q1 => ⟨fun q2 => ⟨fun q3 => h269 0 ?_, fun q3 => ⟨fun q4 => h269 0 ?_, fun q4 => h269 1 ?_⟩⟩, fun q2 => h269 0 ?_⟩, fun q1 => h269 0 ?_⟩⟩
      · rw [if_neg (fun y => by omega)]
      · rw [if_neg (fun y => by omega)]
      · rw [if_pos ⟨q1, lf.mpr q2, by omega, by omega⟩]
      · rw [if_neg (fun y => q2 (lf.mp y.2.1))]
      · rw [if_neg (fun y => q1 y.1)]
    · simp (disch := omega) only [b_N_runs_356, b_N_runs_350, b_N_runs_332, b_N_runs_324, b_N_runs_322, b_N_runs_296, b_N_runs_295, b_N_runs_291, b_N_runs_268, b_N_runs_264, b_N_runs_254, b_N_runs_244, b_N_runs_234, b_N_runs_193, b_N_runs_185, b_N_runs_183, b_N_runs_176, b_N_runs_175, b_N_runs_171, b_N_runs_147, b_N_runs_139, b_N_runs_137, b_N_runs_115, b_N_runs_114, b_N_runs_98, b_N_runs_78, b_N_runs_70, b_N_runs_68, b_N_runs_63, b_N_runs_61, b_N_runs_10, b_N_runs_2, b_N_runs_0, e_al0, e_il3, e_il4, e_il5, e_il2, e_il1, e_is3i, e_is3r, e_is3n, e_is5i, e_is5r, e_is5n, e_is4i, e_is4r, e_is4n, e_is2i, e_is2r, e_is2n, e_inc2i, e_inc2r, e_inc2n, e_inc3i, e_inc3r, e_inc3n, e_c, e_i2, e_dup2, e_b1, e_b2, e_gi, e_gr, e_ald, e_ast, e_vr, e_cv3, e_hd, e_c10, e_c1i, e_c1r, e_sh0, e_sh1, e_sh2, e_sh3, e_sh4, e_tls, e_tln, e_tl0, e_tl1, cl_82, cl_85, ln_85, cl_86, ln_86, cl_88, ln_88, cl_89, ln_89, cl_90, ln_90, cl_93, ln_93, cl_94, ln_94, cl_95, ln_95, cl_96, ln_96, cl_97, ln_97, cl_98, ln_98, cl_99, ln_99, tg_82_3, tg_82_4, tg_82_6, tg_82_8, tg_82_9, tg_82_12, tg_82_13, tg_82_14, tg_82_15, tg_82_16, tg_82_17, tg_82_18, q_N_doesLay, Nat.reduceAdd, true_and, and_true, true_implies, not_true_eq_false, false_implies, not_false_eq_true, imp_self, forall_const, List.append_nil, ra_I, ra_J, ra_pad, true_or, or_true, Nat.reduceEqDiff, ra_bz, eq_self, if_true, if_false, false_and, and_false, Nat.zero_le, List.cons_append, List.nil_append, Nat.reduceLT, Nat.reduceLeDiff, Nat.reduceMul, Nat.reduceSub, n_0, n_1, n_2, n_3, n_4, n_5, n_6, n_7, n_8, n_9, n_10, n_12, n_40, n_48, n_57, n_59, n_72, n_99, n_102, n_103, n_107, n_108, n_192, n_255, n_256, n_999, n_1000, n_104, nI_add, pk_mul, n_cl, n_inT, n_le, n_lt, n_eq, n_m1, n_m1', n_lem1, n_m1le, n_ltm1, n_m1lt, n_lepred, n_shl, fa_or, hH]
      refine ⟨fun q => ⟨(mn - k, 1, ab_hc a - 0), lx2 (by omega), rfl, te, mn, 0, k, u, _, _, hmn, by omega, rfl, hZ, hr, rfl, by omega, rfl, fun j hj => ?_⟩, fun q => by omega⟩
      obtain ⟨g1, g2, g3, g4, g5, g6⟩ := hq j hj
      have := (ab_on_spec hj).1
      rw [if_pos (by omega)] at g1 g2 g4
      exact ⟨g1, g2, g3, g4, g6, fun z => by omega⟩
  · -- 324: as it was laid
    intro as σ0 Z _ μ L S σ hI
    obtain ⟨rfl, te, mn, h, k, u, v, w, hmn, hh, rfl, hZ, hr, rfl, hk, rfl, hq⟩ := hI
    obtain ⟨hR, ⟨⟨hH, hHH⟩, hO⟩, hte, -, -⟩ := id hr
    simp (disch := omega) only [b_N_runs_356, b_N_runs_350, b_N_runs_332, b_N_runs_324, b_N_runs_322, b_N_runs_296, b_N_runs_295, b_N_runs_291, b_N_runs_269, b_N_runs_268, b_N_runs_264, b_N_runs_254, b_N_runs_244, b_N_runs_234, b_N_runs_193, b_N_runs_185, b_N_runs_183, b_N_runs_176, b_N_runs_175, b_N_runs_171, b_N_runs_147, b_N_runs_139, b_N_runs_137, b_N_runs_115, b_N_runs_114, b_N_runs_98, b_N_runs_78, b_N_runs_70, b_N_runs_68, b_N_runs_63, b_N_runs_61, b_N_runs_10, b_N_runs_2, b_N_runs_0, e_al0, e_il3, e_il4, e_il5, e_il2, e_il1, e_is3i, e_is3r, e_is3n, e_is5i, e_is5r, e_is5n, e_is4i, e_is4r, e_is4n, e_is2i, e_is2r, e_is2n, e_inc2i, e_inc2r, e_inc2n, e_inc3i, e_inc3r, e_inc3n, e_c, e_i2, e_dup2, e_b1, e_b2, e_gi, e_gr, e_ald, e_ast, e_vr, e_cv3, e_hd, e_c10, e_c1i, e_c1r, e_sh0, e_sh1, e_sh2, e_sh3, e_sh4, e_tls, e_tln, e_tl0, e_tl1, cl_82, cl_85, ln_85, cl_86, ln_86, cl_88, ln_88, cl_89, ln_89, cl_90, ln_90, cl_93, ln_93, cl_94, ln_94, cl_95, ln_95, cl_96, ln_96, cl_97, ln_97, cl_98, ln_98, cl_99, ln_99, tg_82_3, tg_82_4, tg_82_6, tg_82_8, tg_82_9, tg_82_12, tg_82_13, tg_82_14, tg_82_15, tg_82_16, tg_82_17, tg_82_18, q_N_doesLay, Nat.reduceAdd, true_and, and_true, true_implies, not_true_eq_false, false_implies, not_false_eq_true, imp_self, forall_const, List.append_nil, ra_I, ra_J, ra_pad, true_or, or_true, Nat.reduceEqDiff, ra_bz, eq_self, if_true, if_false, false_and, and_false, Nat.zero_le, List.cons_append, List.nil_append, Nat.reduceLT, Nat.reduceLeDiff, Nat.reduceMul, Nat.reduceSub, n_0, n_1, n_2, n_3, n_4, n_5, n_6, n_7, n_8, n_9, n_10, n_12, n_40, n_48, n_57, n_59, n_72, n_99, n_102, n_103, n_107, n_108, n_192, n_255, n_256, n_999, n_1000, n_104, nI_add, pk_mul, n_cl, n_inT, n_le, n_lt, n_eq, n_m1, n_m1', n_lem1, n_m1le, n_ltm1, n_m1lt, n_lepred, n_shl, fa_or, hH]
    refine ⟨fun q => ⟨(mn - (k + 1), 5, 0), lx1 (by omega), rfl, te, mn, 0, k + 1, _, _, _, hmn, by omega, rfl, hZ, hr, rfl, by omega, rfl, fun j hj => ?_⟩, fun q => ?_⟩
    · obtain ⟨g1, g2, g3, g4, g5, g6⟩ := hq j hj
      exact ⟨g1, g2, g3, g4, g6 (by omega)⟩
    · have hh' : h < ab_hc a := by omega
      simp (disch := omega) only [vi (show h < 9 by omega) (by decide), true_and, (hq h hh').2.2.2.2.1]
      refine ⟨(mn - k, 1, ab_hc a - (h + 1)), lx3 (by omega), rfl, te, mn, h + 1, k, u, v, w, hmn, by omega, rfl, hZ, hr.sw (by decide), rfl, by omega, rfl, fun j hj => ?_⟩
      obtain ⟨e1, e2, e3, e4, e5, e6⟩ := hq j hj
      simp only [sw_at, Nat.reduceEqDiff, if_false, if_true, e1, e2, e3, e4, e5, true_and]
      intro y
      by_cases e : j = h
      · rw [if_pos e, e]
      · rw [if_neg e]
        exact e6 (by omega)
