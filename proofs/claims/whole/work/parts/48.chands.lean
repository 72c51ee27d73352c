/-! the class: many hands -/
theorem hg_hn {a : Ab} (hW : ab_W a) (t : Nat) : hg a t = hn a t := by
  unfold hg
  split
  · rfl
  · next h =>
    unfold hn
    rw [fb_ct_zero.mpr]
    intro k _
    have := hW.2.2.2.2.2.1 k
    exact decide_eq_false (by omega)
def sp_He_rainsAbove (a : Ab) : ra_Sp := ra_f1 70 (fun x σ Z => rc_W a σ ∧ vp_in x 100 ∧ Z (some (.int (nI (hn a x.toNatClampNeg)))) σ)
theorem q_He_rainsAbove {a : Ab} {oo : Nat} {x : Int32} {σ : ra_St} {Z : ra_R} : sp_He_rainsAbove a [.ref oo, .int x] σ Z = (oo = 70 ∧ (rc_W a σ ∧ vp_in x 100 ∧ Z (some (.int (nI (hn a x.toNatClampNeg)))) σ)) := rfl
def I_He_rainsAbove (a : Ab) (Z : ra_R) (as : List Value) (σ0 : ra_St) (t : Nat) (μ : ra_M) : ra_K := fun L S σ => S = [] ∧ σ = σ0 ∧ ∃ x k : Nat, as = [.ref 70, .int (nI x)] ∧ x < 100 ∧ k ≤ a 3 0 ∧ μ = (a 3 0 - k, 0, 0) ∧ L = [.ref 70, .int (nI x), .int (nI (fb_ct (fun k => decide (x < a 4 k)) k)), .int (nI k)]
theorem k_He_rainsAbove {l : Launch} {X : ra_X} {a : Ab} (hW : ab_W a) : ra_MOK l X mi_He_rainsAbove (sp_He_rainsAbove a) := by
  have hr12 := hW.2.2.2.2.1
  refine g_He_rainsAbove (sp_He_rainsAbove a) (I_He_rainsAbove a) ?_ ?_
  · intro as σ Z _ _ h
    obtain ⟨x, rfl, hR, hx, hZ⟩ := x_f1 h
    obtain ⟨x, hx2, rfl⟩ := vp_in_of hx (by decide)
    simp (disch := omega) only [b_He_rainsAbove_37, b_He_rainsAbove_31, b_He_rainsAbove_28, b_He_rainsAbove_15, b_He_rainsAbove_4, b_He_rainsAbove_0, e_il2, e_al0, e_il3, e_il1, e_is2i, e_is2r, e_is2n, e_is3i, e_is3r, e_is3n, e_inc3i, e_inc3r, e_inc3n, e_inc2i, e_inc2r, e_inc2n, e_c, e_b2, e_gi, e_gr, e_ald, e_ir, cl_12, cl_13, ln_13, cl_70, tg_12_0, tg_70_1, Nat.reduceAdd, true_and, and_true, true_implies, not_true_eq_false, false_implies, not_false_eq_true, imp_self, forall_const, List.append_nil, ra_I, ra_J, ra_pad, true_or, or_true, Nat.reduceEqDiff, ra_bz, eq_self, if_true, if_false, false_and, and_false, Nat.zero_le, List.cons_append, List.nil_append, Nat.reduceLT, Nat.reduceLeDiff, Nat.reduceMul, Nat.reduceSub, n_0, n_1, n_2, n_3, n_4, n_5, n_6, n_7, n_8, n_9, n_10, n_12, n_40, n_48, n_57, n_59, n_72, n_99, n_102, n_103, n_107, n_108, n_192, n_255, n_256, n_999, n_1000, n_104, nI_add, pk_mul, n_cl, n_inT, n_le, n_lt, n_eq, n_m1, n_m1', n_lem1, n_m1le, n_ltm1, n_m1lt, n_lepred, n_shl, fa_or]
    exact ⟨_, rfl, rfl, x, 0, rfl, hx2, by omega, rfl, rfl⟩
  · intro as σ0 Z h0 μ L S σ hI
    obtain ⟨rfl, rfl, x, k, rfl, hx, hk, rfl, rfl⟩ := hI
    obtain ⟨_, e, hR, -, hZ⟩ := x_f1 h0
    cases e
    rw [n_cl (by omega)] at hZ
    by_cases hlt : k < a 3 0
    · have h9 := hW.2.2.2.2.2.1 k
      simp (disch := omega) only [b_He_rainsAbove_31, b_He_rainsAbove_28, b_He_rainsAbove_15, b_He_rainsAbove_4, b_He_rainsAbove_0, e_il2, e_al0, e_il3, e_il1, e_is2i, e_is2r, e_is2n, e_is3i, e_is3r, e_is3n, e_inc3i, e_inc3r, e_inc3n, e_inc2i, e_inc2r, e_inc2n, e_c, e_b2, e_gi, e_gr, e_ald, e_ir, cl_12, cl_13, ln_13, cl_70, tg_12_0, tg_70_1, Nat.reduceAdd, true_and, and_true, true_implies, not_true_eq_false, false_implies, not_false_eq_true, imp_self, forall_const, List.append_nil, ra_I, ra_J, ra_pad, true_or, or_true, Nat.reduceEqDiff, ra_bz, eq_self, if_true, if_false, false_and, and_false, Nat.zero_le, List.cons_append, List.nil_append, Nat.reduceLT, Nat.reduceLeDiff, Nat.reduceMul, Nat.reduceSub, n_0, n_1, n_2, n_3, n_4, n_5, n_6, n_7, n_8, n_9, n_10, n_12, n_40, n_48, n_57, n_59, n_72, n_99, n_102, n_103, n_107, n_108, n_192, n_255, n_256, n_999, n_1000, n_104, nI_add, pk_mul, n_cl, n_inT, n_le, n_lt, n_eq, n_m1, n_m1', n_lem1, n_m1le, n_ltm1, n_m1lt, n_lepred, n_shl, fa_or, hR.1, hR.2.1 k hlt]
      refine ⟨fun q => by omega, fun q => ⟨fun q2 => ⟨(a 3 0 - (k + 1), 0, 0), lx1 (by omega), rfl, rfl, x, k + 1, rfl, hx, by omega, rfl, ?_⟩, fun q2 => ⟨(a 3 0 - (k + 1), 0, 0), lx1 (by omega), rfl, rfl, x, k + 1, rfl, hx, by omega, rfl, ?_⟩⟩⟩
      · rw [fb_ct_succ, decide_eq_false (show ¬ x < a 4 k by omega)]
        rfl
      · rw [fb_ct_succ, decide_eq_true (show x < a 4 k by omega)]
        rfl
    · simp (disch := omega) only [b_He_rainsAbove_37, b_He_rainsAbove_31, b_He_rainsAbove_28, b_He_rainsAbove_4, b_He_rainsAbove_0, e_il2, e_al0, e_il3, e_il1, e_is2i, e_is2r, e_is2n, e_is3i, e_is3r, e_is3n, e_inc3i, e_inc3r, e_inc3n, e_inc2i, e_inc2r, e_inc2n, e_c, e_b2, e_gi, e_gr, e_ald, e_ir, cl_12, cl_13, ln_13, cl_70, tg_12_0, tg_70_1, Nat.reduceAdd, true_and, and_true, true_implies, not_true_eq_false, false_implies, not_false_eq_true, imp_self, forall_const, List.append_nil, ra_I, ra_J, ra_pad, true_or, or_true, Nat.reduceEqDiff, ra_bz, eq_self, if_true, if_false, false_and, and_false, Nat.zero_le, List.cons_append, List.nil_append, Nat.reduceLT, Nat.reduceLeDiff, Nat.reduceMul, Nat.reduceSub, n_0, n_1, n_2, n_3, n_4, n_5, n_6, n_7, n_8, n_9, n_10, n_12, n_40, n_48, n_57, n_59, n_72, n_99, n_102, n_103, n_107, n_108, n_192, n_255, n_256, n_999, n_1000, n_104, nI_add, pk_mul, n_cl, n_inT, n_le, n_lt, n_eq, n_m1, n_m1', n_lem1, n_m1le, n_ltm1, n_m1lt, n_lepred, n_shl, fa_or, hR.1]
      refine ⟨fun q => ?_, fun q => by omega⟩
      rw [show k = a 3 0 by omega]
      exact hZ
theorem hsc_n {a : Ab} {T : Nat → Nat} {h : Nat} (q : ¬ (hsc a T h).2 < hg a (T h)) : hsc a T (h + 1) = hsc a T h := by
  rw [hsc, if_neg q]
theorem hT_stop {a : Ab} {n : Nat} (h : (hsc a (hT a n) (ab_hc a)).2 = 0) : ∀ d, hT a (n + d) = hT a n
  | 0 => rfl
  | d + 1 => by
    have ih := hT_stop h d
    funext j
    show hT a (n + d + 1) j = _
    rw [hT_s, ih, if_neg (fun z => z.1 h)]
def sp_He_neediest (a : Ab) : ra_Sp := ra_f0 70 (fun σ Z => rc_V a σ ∧ rc_W a σ ∧ ∃ T : Nat → Nat, (∀ h, h < ab_hc a → σ 71 h = nI (T h) ∧ T h ≤ 9) ∧ Z (some (.int (if (hsc a T (ab_hc a)).2 = 0 then -1 else nI (hsc a T (ab_hc a)).1))) σ)
theorem q_He_neediest {a : Ab} {oo : Nat} {σ : ra_St} {Z : ra_R} : sp_He_neediest a [.ref oo] σ Z = (oo = 70 ∧ (rc_V a σ ∧ rc_W a σ ∧ ∃ T : Nat → Nat, (∀ h, h < ab_hc a → σ 71 h = nI (T h) ∧ T h ≤ 9) ∧ Z (some (.int (if (hsc a T (ab_hc a)).2 = 0 then -1 else nI (hsc a T (ab_hc a)).1))) σ)) := rfl
def I_He_neediest (a : Ab) (Z : ra_R) (as : List Value) (σ0 : ra_St) (t : Nat) (μ : ra_M) : ra_K := fun L S σ => S = [] ∧ σ = σ0 ∧ as = [.ref 70] ∧ ∃ (T : Nat → Nat) (h : Nat) (u : Value), (∀ h, h < ab_hc a → σ 71 h = nI (T h) ∧ T h ≤ 9) ∧ Z (some (.int (if (hsc a T (ab_hc a)).2 = 0 then -1 else nI (hsc a T (ab_hc a)).1))) σ ∧ h ≤ ab_hc a ∧ μ = (ab_hc a - h, 0, 0) ∧ L = [.ref 70, .int (if (hsc a T h).2 = 0 then -1 else nI (hsc a T h).1), .int (nI (hsc a T h).2), .int (nI h), u]
theorem k_He_neediest {l : Launch} {X : ra_X} {a : Ab} (hW : ab_W a) : ra_MOK l X mi_He_neediest (sp_He_neediest a) := by
  have hr12 := hW.2.2.2.2.1
  have h8 := ab_hc_8 a
  refine g_He_neediest (k_He_rainsAbove hW) (sp_He_neediest a) (I_He_neediest a) ?_ ?_
  · intro as σ Z _ _ h
    obtain ⟨rfl, hV, hWe, T, hT, hZ⟩ := x_f0 h
    simp (disch := omega) only [b_He_neediest_46, b_He_neediest_40, b_He_neediest_35, b_He_neediest_17, b_He_neediest_6, b_He_neediest_0, e_il1, e_il4, e_il3, e_al0, e_il2, e_is2i, e_is2r, e_is2n, e_is1i, e_is1r, e_is1n, e_is4i, e_is4r, e_is4n, e_is3i, e_is3r, e_is3n, e_inc3i, e_inc3r, e_inc3n, e_c, e_b2, e_gi, e_gr, e_ald, e_ir, e_cv2, e_hd, e_c10, e_c1i, e_c1r, e_sh0, e_sh1, e_sh2, e_sh3, e_sh4, e_tls, e_tln, e_tl0, e_tl1, cl_1, cl_70, cl_71, ln_71, tg_70_0, tg_70_2, q_He_rainsAbove, Nat.reduceAdd, true_and, and_true, true_implies, not_true_eq_false, false_implies, not_false_eq_true, imp_self, forall_const, List.append_nil, ra_I, ra_J, ra_pad, true_or, or_true, Nat.reduceEqDiff, ra_bz, eq_self, if_true, if_false, false_and, and_false, Nat.zero_le, List.cons_append, List.nil_append, Nat.reduceLT, Nat.reduceLeDiff, Nat.reduceMul, Nat.reduceSub, n_0, n_1, n_2, n_3, n_4, n_5, n_6, n_7, n_8, n_9, n_10, n_12, n_40, n_48, n_57, n_59, n_72, n_99, n_102, n_103, n_107, n_108, n_192, n_255, n_256, n_999, n_1000, n_104, nI_add, pk_mul, n_cl, n_inT, n_le, n_lt, n_eq, n_m1, n_m1', n_lem1, n_m1le, n_ltm1, n_m1lt, n_lepred, n_shl, fa_or]
    exact ⟨_, rfl, rfl, rfl, T, 0, _, hT, hZ, by omega, rfl, rfl⟩
  · intro as σ0 Z h0 μ L S σ hI
    obtain ⟨rfl, rfl, rfl, T, h, u, hT, hZ, hh, rfl, rfl⟩ := hI
    obtain ⟨-, hV, hWe, -⟩ := x_f0 h0
    obtain ⟨b1, b2⟩ := hsc_ok (a := a) (T := T) h
    by_cases hlt : h < ab_hc a
    · obtain ⟨e1, e2⟩ := hT h hlt
      have gle := hn_le a (T h)
      have eg := hg_hn hW (T h)
      simp (disch := omega) only [b_He_neediest_40, b_He_neediest_35, b_He_neediest_17, b_He_neediest_6, b_He_neediest_0, e_il1, e_il4, e_il3, e_al0, e_il2, e_is2i, e_is2r, e_is2n, e_is1i, e_is1r, e_is1n, e_is4i, e_is4r, e_is4n, e_is3i, e_is3r, e_is3n, e_inc3i, e_inc3r, e_inc3n, e_c, e_b2, e_gi, e_gr, e_ald, e_ir, e_cv2, e_hd, e_c10, e_c1i, e_c1r, e_sh0, e_sh1, e_sh2, e_sh3, e_sh4, e_tls, e_tln, e_tl0, e_tl1, cl_1, cl_70, cl_71, ln_71, tg_70_0, tg_70_2, q_He_rainsAbove, Nat.reduceAdd, true_and, and_true, true_implies, not_true_eq_false, false_implies, not_false_eq_true, imp_self, forall_const, List.append_nil, ra_I, ra_J, ra_pad, true_or, or_true, Nat.reduceEqDiff, ra_bz, eq_self, if_true, if_false, false_and, and_false, Nat.zero_le, List.cons_append, List.nil_append, Nat.reduceLT, Nat.reduceLeDiff, Nat.reduceMul, Nat.reduceSub, n_0, n_1, n_2, n_3, n_4, n_5, n_6, n_7, n_8, n_9, n_10, n_12, n_40, n_48, n_57, n_59, n_72, n_99, n_102, n_103, n_107, n_108, n_192, n_255, n_256, n_999, n_1000, n_104, nI_add, pk_mul, n_cl, n_inT, n_le, n_lt, n_eq, n_m1, n_m1', n_lem1, n_m1le, n_ltm1, n_m1lt, n_lepred, n_shl, fa_or, hV.2.1.1, e1]
      refine ⟨fun q => by omega, fun _ => ⟨hWe, fun q => ⟨(ab_hc a - (h + 1), 0, 0), lx1 (by omega), rfl, rfl, rfl, T, h + 1, .int (nI (hn a (T h))), hT, hZ, by omega, rfl, ?_⟩, fun q => ⟨(ab_hc a - (h + 1), 0, 0), lx1 (by omega), rfl, rfl, rfl, T, h + 1, .int (nI (hn a (T h))), hT, hZ, by omega, rfl, ?_⟩⟩⟩
      · rw [hsc_n (by omega)]
        rfl
      · rw [hsc_y (by omega), eg]
        show _ = [_, Value.int (if hn a (T h) = 0 then -1 else nI h), _, _, _]
        rw [if_neg (by omega)]
    · simp (disch := omega) only [b_He_neediest_46, b_He_neediest_40, b_He_neediest_35, b_He_neediest_6, b_He_neediest_0, e_il1, e_il4, e_il3, e_al0, e_il2, e_is2i, e_is2r, e_is2n, e_is1i, e_is1r, e_is1n, e_is4i, e_is4r, e_is4n, e_is3i, e_is3r, e_is3n, e_inc3i, e_inc3r, e_inc3n, e_c, e_b2, e_gi, e_gr, e_ald, e_ir, e_cv2, e_hd, e_c10, e_c1i, e_c1r, e_sh0, e_sh1, e_sh2, e_sh3, e_sh4, e_tls, e_tln, e_tl0, e_tl1, cl_1, cl_70, cl_71, ln_71, tg_70_0, tg_70_2, q_He_rainsAbove, Nat.reduceAdd, true_and, and_true, true_implies, not_true_eq_false, false_implies, not_false_eq_true, imp_self, forall_const, List.append_nil, ra_I, ra_J, ra_pad, true_or, or_true, Nat.reduceEqDiff, ra_bz, eq_self, if_true, if_false, false_and, and_false, Nat.zero_le, List.cons_append, List.nil_append, Nat.reduceLT, Nat.reduceLeDiff, Nat.reduceMul, Nat.reduceSub, n_0, n_1, n_2, n_3, n_4, n_5, n_6, n_7, n_8, n_9, n_10, n_12, n_40, n_48, n_57, n_59, n_72, n_99, n_102, n_103, n_107, n_108, n_192, n_255, n_256, n_999, n_1000, n_104, nI_add, pk_mul, n_cl, n_inT, n_le, n_lt, n_eq, n_m1, n_m1', n_lem1, n_m1le, n_ltm1, n_m1lt, n_lepred, n_shl, fa_or, hV.2.1.1]
      refine ⟨fun _ => ?_, fun q => by omega⟩
      rw [show h = ab_hc a by omega]
      exact hZ
def sp_He_lay (a : Ab) : ra_Sp := ra_f1 70 (fun x σ Z => rc_V a σ ∧ rc_W a σ ∧ ∃ k : Nat, k ≤ 72 ∧ x = nI k ∧ ∀ σ', (∀ h, h < ab_hc a → σ' 71 h = nI (hT a k h)) → ra_fs [71] [] σ σ' → Z none σ')
theorem q_He_lay {a : Ab} {oo : Nat} {x : Int32} {σ : ra_St} {Z : ra_R} : sp_He_lay a [.ref oo, .int x] σ Z = (oo = 70 ∧ (rc_V a σ ∧ rc_W a σ ∧ ∃ k : Nat, k ≤ 72 ∧ x = nI k ∧ ∀ σ', (∀ h, h < ab_hc a → σ' 71 h = nI (hT a k h)) → ra_fs [71] [] σ σ' → Z none σ')) := rfl
def I_He_lay (a : Ab) (Z : ra_R) (as : List Value) (σ0 : ra_St) (t : Nat) (μ : ra_M) : ra_K := fun L S σ => S = [] ∧ ∃ (k i : Nat) (u : Value), as = [.ref 70, .int (nI k)] ∧ k ≤ 72 ∧ i ≤ k ∧ rc_V a σ ∧ rc_W a σ ∧ (∀ h, h < ab_hc a → σ 71 h = nI (hT a i h)) ∧ ra_fs [71] [] σ0 σ ∧ μ = (k - i, 0, 0) ∧ L = [.ref 70, .int (nI k), .int (nI i), u]
theorem k_He_lay {l : Launch} {X : ra_X} {a : Ab} (hW : ab_W a) : ra_MOK l X mi_He_lay (sp_He_lay a) := by
  have h8 := ab_hc_8 a
  refine g_He_lay (k_He_neediest hW) (sp_He_lay a) (I_He_lay a) ?_ ?_
  · intro as σ Z _ _ h
    obtain ⟨_, rfl, hV, hWe, k, hk, rfl, hZ⟩ := x_f1 h
    simp (disch := omega) only [b_He_lay_57, b_He_lay_41, b_He_lay_40, b_He_lay_30, b_He_lay_25, b_He_lay_0, e_al0, e_il3, e_il2, e_il1, e_is3i, e_is3r, e_is3n, e_is2i, e_is2r, e_is2n, e_inc2i, e_inc2r, e_inc2n, e_c, e_i2, e_dup2, e_b2, e_gi, e_gr, e_ald, e_ast, e_cpy, e_vr, e_cv1, e_hd, e_c10, e_c1i, e_c1r, e_sh0, e_sh1, e_sh2, e_sh3, e_sh4, e_tls, e_tln, e_tl0, e_tl1, cl_1, cl_6, ln_6, cl_70, cl_71, ln_71, tg_1_2, tg_70_0, tg_70_2, q_He_neediest, Nat.reduceAdd, true_and, and_true, true_implies, not_true_eq_false, false_implies, not_false_eq_true, imp_self, forall_const, List.append_nil, ra_I, ra_J, ra_pad, true_or, or_true, Nat.reduceEqDiff, ra_bz, eq_self, if_true, if_false, false_and, and_false, Nat.zero_le, List.cons_append, List.nil_append, Nat.reduceLT, Nat.reduceLeDiff, Nat.reduceMul, Nat.reduceSub, n_0, n_1, n_2, n_3, n_4, n_5, n_6, n_7, n_8, n_9, n_10, n_12, n_40, n_48, n_57, n_59, n_72, n_99, n_102, n_103, n_107, n_108, n_192, n_255, n_256, n_999, n_1000, n_104, nI_add, pk_mul, n_cl, n_inT, n_le, n_lt, n_eq, n_m1, n_m1', n_lem1, n_m1le, n_ltm1, n_m1lt, n_lepred, n_shl, fa_or, hV.2.1.1]
    have hf : ra_fs [71] [] σ (ra_su σ 71 (va_cpy (σ 6) (σ 71) 0 0 (ab_hc a))) := fun c j hc _ => congrFun (ra_su_ne _ _ (fun z => hc (by rw [z]; decide))) j
    refine ⟨by omega, by omega, by omega, _, rfl, k, 0, _, rfl, hk, by omega, hV.fs hf (by decide), hWe.fs hf (by decide), fun h hh => ?_, hf, rfl, rfl⟩
    rw [ra_su_self]
    unfold va_cpy
    rw [if_pos (by omega), show 0 + (h - 0) = h by omega]
    exact (hV.2.1.2 h hh).1
  · intro as σ0 Z h0 μ L S σ hI
    obtain ⟨rfl, k, i, u, rfl, hk, hi, hV, hWe, hq, hf, rfl, rfl⟩ := hI
    obtain ⟨_, e, -, -, k', hk', e2, hZ⟩ := x_f1 h0
    cases e
    rw [n_eq (by omega) (by omega)] at e2
    subst e2
    by_cases hlt : i < k
    · have hT9 : ∀ h, h < ab_hc a → σ 71 h = nI (hT a i h) ∧ hT a i h ≤ 9 := fun h hh => ⟨hq h hh, hT_9 i hh⟩
      obtain ⟨b1, b2⟩ := hsc_ok (a := a) (T := hT a i) (ab_hc a)
      simp (disch := omega) only [b_He_lay_41, b_He_lay_40, b_He_lay_30, b_He_lay_25, b_He_lay_0, e_al0, e_il3, e_il2, e_il1, e_is3i, e_is3r, e_is3n, e_is2i, e_is2r, e_is2n, e_inc2i, e_inc2r, e_inc2n, e_c, e_i2, e_dup2, e_b2, e_gi, e_gr, e_ald, e_ast, e_cpy, e_vr, e_cv1, e_hd, e_c10, e_c1i, e_c1r, e_sh0, e_sh1, e_sh2, e_sh3, e_sh4, e_tls, e_tln, e_tl0, e_tl1, cl_1, cl_6, ln_6, cl_70, cl_71, ln_71, tg_1_2, tg_70_0, tg_70_2, q_He_neediest, Nat.reduceAdd, true_and, and_true, true_implies, not_true_eq_false, false_implies, not_false_eq_true, imp_self, forall_const, List.append_nil, ra_I, ra_J, ra_pad, true_or, or_true, Nat.reduceEqDiff, ra_bz, eq_self, if_true, if_false, false_and, and_false, Nat.zero_le, List.cons_append, List.nil_append, Nat.reduceLT, Nat.reduceLeDiff, Nat.reduceMul, Nat.reduceSub, n_0, n_1, n_2, n_3, n_4, n_5, n_6, n_7, n_8, n_9, n_10, n_12, n_40, n_48, n_57, n_59, n_72, n_99, n_102, n_103, n_107, n_108, n_192, n_255, n_256, n_999, n_1000, n_104, nI_add, pk_mul, n_cl, n_inT, n_le, n_lt, n_eq, n_m1, n_m1', n_lem1, n_m1le, n_ltm1, n_m1lt, n_lepred, n_shl, fa_or]
      refine ⟨fun q => by omega, fun _ => ⟨hV, hWe, hT a i, hT9, ?_⟩⟩
      by_cases hz : (hsc a (hT a i) (ab_hc a)).2 = 0
      · rw [if_pos hz]
        refine ⟨fun _ => hZ σ (fun h hh => ?_) hf, fun q => absurd rfl q⟩
        rw [hq h hh, show k = i + (k - i) by omega, hT_stop hz]
      · rw [if_neg hz]
        obtain ⟨c1, c2⟩ := b2 hz
        rw [n_m1 (by omega), n_cl (by omega), hq _ c1, nI_add]
        have hf1 : ra_fs [71] [] σ (ra_sw σ 71 (hsc a (hT a i) (ab_hc a)).1 (nI (hT a i (hsc a (hT a i) (ab_hc a)).1 + 1))) := ra_fs.rf.sw (Or.inl (by decide))
        refine ⟨fun q => q.elim, fun _ => ⟨vi (by omega) (by decide), vi (by omega) (by decide), (k - (i + 1), 0, 0), lx1 (by omega), rfl, k, i + 1, _, rfl, hk, by omega, hV.fs hf1 (by decide), hWe.fs hf1 (by decide), fun h hh => ?_, hf.tr hf1 (by decide) (by decide), rfl, rfl⟩⟩
        rw [hT_s, sw_at, if_pos rfl]
        by_cases e : h = (hsc a (hT a i) (ab_hc a)).1
        · rw [if_pos e, if_pos ⟨hz, e⟩, e]
        · rw [if_neg e, if_neg (fun z => e z.2)]
          exact hq h hh
    · simp (disch := omega) only [b_He_lay_57, b_He_lay_41, b_He_lay_40, b_He_lay_25, b_He_lay_0, e_al0, e_il3, e_il2, e_il1, e_is3i, e_is3r, e_is3n, e_is2i, e_is2r, e_is2n, e_inc2i, e_inc2r, e_inc2n, e_c, e_i2, e_dup2, e_b2, e_gi, e_gr, e_ald, e_ast, e_cpy, e_vr, e_cv1, e_hd, e_c10, e_c1i, e_c1r, e_sh0, e_sh1, e_sh2, e_sh3, e_sh4, e_tls, e_tln, e_tl0, e_tl1, cl_1, cl_6, ln_6, cl_70, cl_71, ln_71, tg_1_2, tg_70_0, tg_70_2, q_He_neediest, Nat.reduceAdd, true_and, and_true, true_implies, not_true_eq_false, false_implies, not_false_eq_true, imp_self, forall_const, List.append_nil, ra_I, ra_J, ra_pad, true_or, or_true, Nat.reduceEqDiff, ra_bz, eq_self, if_true, if_false, false_and, and_false, Nat.zero_le, List.cons_append, List.nil_append, Nat.reduceLT, Nat.reduceLeDiff, Nat.reduceMul, Nat.reduceSub, n_0, n_1, n_2, n_3, n_4, n_5, n_6, n_7, n_8, n_9, n_10, n_12, n_40, n_48, n_57, n_59, n_72, n_99, n_102, n_103, n_107, n_108, n_192, n_255, n_256, n_999, n_1000, n_104, nI_add, pk_mul, n_cl, n_inT, n_le, n_lt, n_eq, n_m1, n_m1', n_lem1, n_m1le, n_ltm1, n_m1lt, n_lepred, n_shl, fa_or]
      refine ⟨fun _ => ?_, fun q => by omega⟩
      have e : i = k := by omega
      subst e
      exact hZ σ hq hf
def sp_He_harmOfAll (a : Ab) : ra_Sp := ra_f0 70 (fun σ Z => rc_V a σ ∧ rc_W a σ ∧ ∃ T : Nat → Nat, (∀ h, h < ab_hc a → σ 71 h = nI (T h) ∧ T h ≤ 9) ∧ Z (some (.int (nI (hS a T)))) σ)
theorem q_He_harmOfAll {a : Ab} {oo : Nat} {σ : ra_St} {Z : ra_R} : sp_He_harmOfAll a [.ref oo] σ Z = (oo = 70 ∧ (rc_V a σ ∧ rc_W a σ ∧ ∃ T : Nat → Nat, (∀ h, h < ab_hc a → σ 71 h = nI (T h) ∧ T h ≤ 9) ∧ Z (some (.int (nI (hS a T)))) σ)) := rfl
def I_He_harmOfAll (a : Ab) (Z : ra_R) (as : List Value) (σ0 : ra_St) (t : Nat) (μ : ra_M) : ra_K := fun L S σ => S = [] ∧ σ = σ0 ∧ as = [.ref 70] ∧ ∃ (T : Nat → Nat) (h k : Nat) (u : Value), (∀ h, h < ab_hc a → σ 71 h = nI (T h) ∧ T h ≤ 9) ∧ Z (some (.int (nI (hS a T)))) σ ∧
  match t with
  | 4 => h ≤ ab_hc a ∧ μ = (ab_hc a - h, 1, 0) ∧ L = [.ref 70, .int (nI (fb_sm (hQ a T) h)), .int (nI h), u]
  | _ => h < ab_hc a ∧ k ≤ a 3 0 ∧ μ = (ab_hc a - h, 0, a 3 0 - k) ∧ L = [.ref 70, .int (nI (fb_sm (hQ a T) h + fb_sm (fun k => a 4 k - T h) k)), .int (nI h), .int (nI k)]
theorem k_He_harmOfAll {l : Launch} {X : ra_X} {a : Ab} (hW : ab_W a) : ra_MOK l X mi_He_harmOfAll (sp_He_harmOfAll a) := by
  have h8 := ab_hc_8 a
  have hr12 := hW.2.2.2.2.1
  refine g_He_harmOfAll (sp_He_harmOfAll a) (I_He_harmOfAll a) ?_ ?_ ?_
  · intro as σ Z _ _ h
    obtain ⟨rfl, hV, hWe, T, hT, hZ⟩ := x_f0 h
    simp (disch := omega) only [b_He_harmOfAll_63, b_He_harmOfAll_57, b_He_harmOfAll_28, b_He_harmOfAll_17, b_He_harmOfAll_15, b_He_harmOfAll_4, b_He_harmOfAll_0, e_il1, e_al0, e_il3, e_il2, e_is1i, e_is1r, e_is1n, e_is3i, e_is3r, e_is3n, e_is2i, e_is2r, e_is2n, e_inc2i, e_inc2r, e_inc2n, e_inc3i, e_inc3r, e_inc3n, e_c, e_i2, e_b2, e_gi, e_gr, e_ald, e_max, e_ir, e_sh0, e_sh1, e_sh2, e_sh3, e_sh4, cl_1, cl_12, cl_13, ln_13, cl_70, cl_71, ln_71, tg_12_0, tg_70_0, tg_70_1, tg_70_2, Nat.reduceAdd, true_and, and_true, true_implies, not_true_eq_false, false_implies, not_false_eq_true, imp_self, forall_const, List.append_nil, ra_I, ra_J, ra_pad, true_or, or_true, Nat.reduceEqDiff, ra_bz, eq_self, if_true, if_false, false_and, and_false, Nat.zero_le, List.cons_append, List.nil_append, Nat.reduceLT, Nat.reduceLeDiff, Nat.reduceMul, Nat.reduceSub, n_0, n_1, n_2, n_3, n_4, n_5, n_6, n_7, n_8, n_9, n_10, n_12, n_40, n_48, n_57, n_59, n_72, n_99, n_102, n_103, n_107, n_108, n_192, n_255, n_256, n_999, n_1000, n_104, nI_add, pk_mul, n_cl, n_inT, n_le, n_lt, n_eq, n_m1, n_m1', n_lem1, n_m1le, n_ltm1, n_m1lt, n_lepred, n_shl, fa_or]
    exact ⟨_, rfl, rfl, rfl, T, 0, 0, _, hT, hZ, by omega, rfl, rfl⟩
  · intro as σ0 Z h0 μ L S σ hI
    obtain ⟨rfl, rfl, rfl, T, h, k, u, hT, hZ, hh, rfl, rfl⟩ := hI
    obtain ⟨-, hV, hWe, -⟩ := x_f0 h0
    simp (disch := omega) only [b_He_harmOfAll_63, b_He_harmOfAll_57, b_He_harmOfAll_28, b_He_harmOfAll_17, b_He_harmOfAll_15, b_He_harmOfAll_4, b_He_harmOfAll_0, e_il1, e_al0, e_il3, e_il2, e_is1i, e_is1r, e_is1n, e_is3i, e_is3r, e_is3n, e_is2i, e_is2r, e_is2n, e_inc2i, e_inc2r, e_inc2n, e_inc3i, e_inc3r, e_inc3n, e_c, e_i2, e_b2, e_gi, e_gr, e_ald, e_max, e_ir, e_sh0, e_sh1, e_sh2, e_sh3, e_sh4, cl_1, cl_12, cl_13, ln_13, cl_70, cl_71, ln_71, tg_12_0, tg_70_0, tg_70_1, tg_70_2, Nat.reduceAdd, true_and, and_true, true_implies, not_true_eq_false, false_implies, not_false_eq_true, imp_self, forall_const, List.append_nil, ra_I, ra_J, ra_pad, true_or, or_true, Nat.reduceEqDiff, ra_bz, eq_self, if_true, if_false, false_and, and_false, Nat.zero_le, List.cons_append, List.nil_append, Nat.reduceLT, Nat.reduceLeDiff, Nat.reduceMul, Nat.reduceSub, n_0, n_1, n_2, n_3, n_4, n_5, n_6, n_7, n_8, n_9, n_10, n_12, n_40, n_48, n_57, n_59, n_72, n_99, n_102, n_103, n_107, n_108, n_192, n_255, n_256, n_999, n_1000, n_104, nI_add, pk_mul, n_cl, n_inT, n_le, n_lt, n_eq, n_m1, n_m1', n_lem1, n_m1le, n_ltm1, n_m1lt, n_lepred, n_shl, fa_or, hV.2.1.1]
    refine ⟨fun q => ?_, fun q => ⟨(ab_hc a - h, 0, a 3 0 - 0), lx2 (by omega), rfl, rfl, rfl, T, h, 0, u, hT, hZ, by omega, by omega, rfl, rfl⟩⟩
    rw [show h = ab_hc a by omega]
    exact hZ
  · intro as σ0 Z h0 μ L S σ hI
    obtain ⟨rfl, rfl, rfl, T, h, k, u, hT, hZ, hh, hk, rfl, rfl⟩ := hI
    obtain ⟨-, hV, hWe, -⟩ := x_f0 h0
    have g1 := hS_le hW T h (by omega)
    have g2 := hQ_le hW T h k hk
    by_cases hlt : k < a 3 0
    · have h9 := hW.2.2.2.2.2.1 k
      obtain ⟨e1, e2⟩ := hT h hh
      simp (disch := omega) only [b_He_harmOfAll_63, b_He_harmOfAll_28, b_He_harmOfAll_17, b_He_harmOfAll_15, b_He_harmOfAll_4, b_He_harmOfAll_0, e_il1, e_al0, e_il3, e_il2, e_is1i, e_is1r, e_is1n, e_is3i, e_is3r, e_is3n, e_is2i, e_is2r, e_is2n, e_inc2i, e_inc2r, e_inc2n, e_inc3i, e_inc3r, e_inc3n, e_c, e_i2, e_b2, e_gi, e_gr, e_ald, e_max, e_ir, e_sh0, e_sh1, e_sh2, e_sh3, e_sh4, cl_1, cl_12, cl_13, ln_13, cl_70, cl_71, ln_71, tg_12_0, tg_70_0, tg_70_1, tg_70_2, Nat.reduceAdd, true_and, and_true, true_implies, not_true_eq_false, false_implies, not_false_eq_true, imp_self, forall_const, List.append_nil, ra_I, ra_J, ra_pad, true_or, or_true, Nat.reduceEqDiff, ra_bz, eq_self, if_true, if_false, false_and, and_false, Nat.zero_le, List.cons_append, List.nil_append, Nat.reduceLT, Nat.reduceLeDiff, Nat.reduceMul, Nat.reduceSub, n_0, n_1, n_2, n_3, n_4, n_5, n_6, n_7, n_8, n_9, n_10, n_12, n_40, n_48, n_57, n_59, n_72, n_99, n_102, n_103, n_107, n_108, n_192, n_255, n_256, n_999, n_1000, n_104, nI_add, pk_mul, n_cl, n_inT, n_le, n_lt, n_eq, n_m1, n_m1', n_lem1, n_m1le, n_ltm1, n_m1lt, n_lepred, n_shl, fa_or, hWe.1, hWe.2.1 k hlt, e1, n_max0]
      refine ⟨fun q => by omega, fun _ => ⟨(ab_hc a - h, 0, a 3 0 - (k + 1)), lx3 (by omega), rfl, rfl, rfl, T, h, k + 1, u, hT, hZ, hh, by omega, rfl, ?_⟩⟩
      rw [fb_sm_succ, Nat.add_assoc]
    · simp (disch := omega) only [b_He_harmOfAll_63, b_He_harmOfAll_57, b_He_harmOfAll_17, b_He_harmOfAll_15, b_He_harmOfAll_4, b_He_harmOfAll_0, e_il1, e_al0, e_il3, e_il2, e_is1i, e_is1r, e_is1n, e_is3i, e_is3r, e_is3n, e_is2i, e_is2r, e_is2n, e_inc2i, e_inc2r, e_inc2n, e_inc3i, e_inc3r, e_inc3n, e_c, e_i2, e_b2, e_gi, e_gr, e_ald, e_max, e_ir, e_sh0, e_sh1, e_sh2, e_sh3, e_sh4, cl_1, cl_12, cl_13, ln_13, cl_70, cl_71, ln_71, tg_12_0, tg_70_0, tg_70_1, tg_70_2, Nat.reduceAdd, true_and, and_true, true_implies, not_true_eq_false, false_implies, not_false_eq_true, imp_self, forall_const, List.append_nil, ra_I, ra_J, ra_pad, true_or, or_true, Nat.reduceEqDiff, ra_bz, eq_self, if_true, if_false, false_and, and_false, Nat.zero_le, List.cons_append, List.nil_append, Nat.reduceLT, Nat.reduceLeDiff, Nat.reduceMul, Nat.reduceSub, n_0, n_1, n_2, n_3, n_4, n_5, n_6, n_7, n_8, n_9, n_10, n_12, n_40, n_48, n_57, n_59, n_72, n_99, n_102, n_103, n_107, n_108, n_192, n_255, n_256, n_999, n_1000, n_104, nI_add, pk_mul, n_cl, n_inT, n_le, n_lt, n_eq, n_m1, n_m1', n_lem1, n_m1le, n_ltm1, n_m1lt, n_lepred, n_shl, fa_or, hWe.1]
      refine ⟨fun _ => ⟨(ab_hc a - (h + 1), 1, 0), lx1 (by omega), rfl, rfl, rfl, T, h + 1, 0, .int (nI k), hT, hZ, by omega, rfl, ?_⟩, fun q => by omega⟩
      rw [fb_sm_succ, show k = a 3 0 by omega]
      rfl
theorem rc_I.hlp {a : Ab} {b : Bb} {n : Nat} {σ σ' : ra_St} (h : rc_I a b n σ) (hf : ra_fs [71] [] σ σ') : rc_I a b n σ' := by
  obtain ⟨h1, h2, h3, h4, h5, v, w, e', k, h6, h7, h8, h9, h10, h11, h12⟩ := h
  exact ⟨h1.fs hf (by decide), h2.fs hf (by decide), h3.fs hf (by decide), h4.fs hf (by decide), h5.fs hf (by decide), v, w, e', k, h6, h7.fs hf (by decide), h8.fs hf (by decide), h9.fs hf (by decide), h10.fs hf (by decide), h11.fs hf (by decide), h12.fs hf (by decide)⟩
def sp_R_hands (a : Ab) (b : Bb) (n : Nat) : ra_Sp := ra_f2 0 (fun k x σ Z => rc_I a b n σ ∧ ∀ σ', rc_I a b n σ' → ra_up σ σ' → Z (some (.int (an_hands a k x))) σ')
theorem q_R_hands {a : Ab} {b : Bb} {n : Nat} {oo : Nat} {k x : Int32} {σ : ra_St} {Z : ra_R} : sp_R_hands a b n [.ref oo, .int k, .int x] σ Z = (oo = 0 ∧ (rc_I a b n σ ∧ ∀ σ', rc_I a b n σ' → ra_up σ σ' → Z (some (.int (an_hands a k x))) σ')) := rfl
theorem k_R_hands {l : Launch} {X : ra_X} {a : Ab} {b : Bb} {n : Nat} (hW : ab_W a) : ra_MOK l X mi_R_hands (sp_R_hands a b n) := by
  have h8 := ab_hc_8 a
  refine g_R_hands k_R_isOutside (k_R_isNoHouse (a := a)) (k_He_lay hW) (k_He_harmOfAll hW) (sp_R_hands a b n) ?_
  intro as σ Z _ _ h
  obtain ⟨k, x, rfl, hI, hZ⟩ := x_f2 h
  have no : ¬ (an_in k 72 ∧ (x = -1 ∨ an_hs a x)) → Z (some (.int (-2))) σ := by
    intro q
    rw [an_hands_no q] at hZ
    exact hZ σ hI ra_up.rf
  have body : an_in k 72 → (x = -1 ∨ an_hs a x) → rc_V a σ ∧ rc_W a σ ∧ ∃ k_1, k_1 ≤ 72 ∧ k = nI k_1 ∧ ∀ σ' : ra_St, (∀ h, h < ab_hc a → σ' 71 h = nI (hT a k_1 h)) → ra_fs [71] [] σ σ' → (x = -nI 1 → rc_V a σ' ∧ rc_W a σ' ∧ ∃ T : Nat → Nat, (∀ h, h < ab_hc a → σ' 71 h = nI (T h) ∧ T h ≤ 9) ∧ Z (some (.int (nI (hS a T)))) σ') ∧ (¬ x = -nI 1 → vp_in x 8 ∧ Z (some (.int (σ' 71 x.toNatClampNeg))) σ') := by
    intro q1 q2
    rw [an_hands_yes ⟨q1, q2⟩] at hZ
    obtain ⟨m, hm, rfl⟩ := an_in_of q1 (by decide)
    unfold an_hd at hZ
    rw [n_cl (by omega)] at hZ
    refine ⟨hI.1, hI.2.1, m, hm, rfl, fun σ' g1 g2 => ?_⟩
    have hI2 := hI.hlp g2
    have h9 := hZ σ' hI2 (g2.hi (by decide))
    refine ⟨fun q => ⟨hI2.1, hI2.2.1, hT a m, fun h hh => ⟨g1 h hh, hT_9 m hh⟩, ?_⟩, fun q => ?_⟩
    · rw [if_pos (show x = -1 from q)] at h9
      exact h9
    · rw [if_neg (show ¬ x = -1 from q)] at h9
      rcases q2 with q2 | q2
      · exact absurd q2 q
      · obtain ⟨y, hy, rfl⟩ := an_hs_of q2
        rw [n_cl (by omega)] at h9
        rw [n_cl (by omega), g1 y hy]
        exact ⟨vi (by omega) (by decide), h9⟩
  simp (disch := omega) only [b_R_hands_58, b_R_hands_49, b_R_hands_39, b_R_hands_26, b_R_hands_23, b_R_hands_15, b_R_hands_10, b_R_hands_0, e_al0, e_il2, e_il1, e_c, e_b1, e_b2, e_gr, e_ald, e_ir, e_cs3, e_cv1, e_hd, e_cv2, e_c10, e_c1i, e_c1r, e_sh0, e_sh1, e_sh2, e_sh3, e_sh4, e_tls, e_tln, e_tl0, e_tl1, cl_0, cl_70, cl_71, ln_71, tg_0_6, tg_70_2, q_R_isOutside, q_R_isNoHouse, q_He_lay, q_He_harmOfAll, Nat.reduceAdd, true_and, and_true, true_implies, not_true_eq_false, false_implies, not_false_eq_true, imp_self, forall_const, List.append_nil, ra_I, ra_J, ra_pad, true_or, or_true, Nat.reduceEqDiff, ra_bz, eq_self, if_true, if_false, false_and, and_false, Nat.zero_le, List.cons_append, List.nil_append, Nat.reduceLT, Nat.reduceLeDiff, Nat.reduceMul, Nat.reduceSub, n_0, n_1, n_2, n_3, n_4, n_5, n_6, n_7, n_8, n_9, n_10, n_12, n_40, n_48, n_57, n_59, n_72, n_99, n_102, n_103, n_107, n_108, n_192, n_255, n_256, n_999, n_1000, n_104, nI_add, pk_mul, n_cl, n_inT, n_le, n_lt, n_eq, n_m1, n_m1', n_lem1, n_m1le, n_ltm1, n_m1lt, n_lepred, n_shl, fa_or]
  refine ⟨fun q => no (fun z => q z.1), fun q => ⟨fun q2 => body (Classical.not_not.mp q) (Or.inl q2), fun q2 => ⟨hI.1, fun q3 => no (fun z => ?_), fun q3 => body (Classical.not_not.mp q) (Or.inr (Classical.not_not.mp q3))⟩⟩⟩
  rcases z.2 with z | z
  · exact q2 z
  · exact q3 z
