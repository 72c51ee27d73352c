/-! the class: all, liars, ring -/
def sp_R_all (a : Ab) (b : Bb) (n : Nat) : ra_Sp := ra_f2 0 (fun y w σ Z => rc_I a b n σ ∧ ∀ σ', rc_I a b n σ' → ra_up σ σ' → Z (some (.int (an_all a y w))) σ')
theorem q_R_all {a : Ab} {b : Bb} {n : Nat} {oo : Nat} {y w : Int32} {σ : ra_St} {Z : ra_R} : sp_R_all a b n [.ref oo, .int y, .int w] σ Z = (oo = 0 ∧ (rc_I a b n σ ∧ ∀ σ', rc_I a b n σ' → ra_up σ σ' → Z (some (.int (an_all a y w))) σ')) := rfl
def I_R_all (a : Ab) (b : Bb) (n : Nat) (Z : ra_R) (as : List Value) (σ0 : ra_St) (t : Nat) (μ : ra_M) : ra_K := fun L S σ => S = [] ∧ ∃ y w h : Nat, as = [.ref 0, .int (nI y), .int (nI w)] ∧ y ≤ a 3 0 ∧ w ≤ 3 ∧ h ≤ ab_hc a ∧ rc_I a b n σ ∧ ra_up σ0 σ ∧ μ = (ab_hc a - h, 0, 0) ∧ L = [.ref 0, .int (nI y), .int (nI w), .int (nI (fb_sm (fun h => sm_g (sm a (ab_te a) y) w h) h)), .int (nI h)]
theorem k_R_all {l : Launch} {X : ra_X} {a : Ab} {b : Bb} {n : Nat} (hn : n < 1000000000) (hW : ab_W a) : ra_MOK l X mi_R_all (sp_R_all a b n) := by
  have h8 := ab_hc_8 a
  have hr12 := hW.2.2.2.2.1
  refine g_R_all k_R_isOutside (k_So_rowOf (b := b) hn hW) (sp_R_all a b n) (I_R_all a b n) ?_ ?_
  · intro as σ Z _ _ h
    obtain ⟨y, w, rfl, hI, hZ⟩ := x_f2 h
    by_cases hy : an_in y (a 3 0) ∧ an_in w 3
    · obtain ⟨y, hy2, rfl⟩ := an_in_of hy.1 (by omega)
      obtain ⟨w, hw2, rfl⟩ := an_in_of hy.2 (by decide)
      simp (disch := omega) only [b_R_all_69, b_R_all_44, b_R_all_32, b_R_all_27, b_R_all_24, b_R_all_15, b_R_all_0, e_il3, e_al0, e_il2, e_il1, e_il4, e_is3i, e_is3r, e_is3n, e_is4i, e_is4r, e_is4n, e_inc4i, e_inc4r, e_inc4n, e_c, e_i2, e_b1, e_b2, e_gi, e_gr, e_ald, e_ir, e_cs3, e_cv2, e_hd, e_c10, e_c1i, e_c1r, e_sh0, e_sh1, e_sh2, e_sh3, e_sh4, e_tls, e_tln, e_tl0, e_tl1, cl_0, cl_1, cl_12, cl_14, tg_0_0, tg_0_1, tg_0_2, q_R_isOutside, q_So_rowOf, Nat.reduceAdd, true_and, and_true, true_implies, not_true_eq_false, false_implies, not_false_eq_true, imp_self, forall_const, List.append_nil, ra_I, ra_J, ra_pad, true_or, or_true, Nat.reduceEqDiff, ra_bz, eq_self, if_true, if_false, false_and, and_false, Nat.zero_le, List.cons_append, List.nil_append, Nat.reduceLT, Nat.reduceLeDiff, Nat.reduceMul, Nat.reduceSub, n_0, n_1, n_2, n_3, n_4, n_5, n_6, n_7, n_8, n_9, n_10, n_12, n_40, n_48, n_57, n_59, n_72, n_99, n_102, n_103, n_107, n_108, n_192, n_255, n_256, n_999, n_1000, n_104, nI_add, pk_mul, n_cl, n_inT, n_le, n_lt, n_eq, n_m1, n_m1', n_lem1, n_m1le, n_ltm1, n_m1lt, n_lepred, n_shl, fa_or, hI.2.1.1]
      exact ⟨fun q => absurd hy2 q, fun _ => ⟨fun q => absurd hw2 q, fun _ => ⟨_, rfl, y, w, 0, rfl, hy2, hw2, by omega, hI, ra_up.rf, rfl, rfl⟩⟩⟩
    · rw [an_all_no hy] at hZ
      have h9 := hZ σ hI ra_up.rf
      simp (disch := omega) only [b_R_all_69, b_R_all_44, b_R_all_32, b_R_all_24, b_R_all_15, b_R_all_0, e_il3, e_al0, e_il2, e_il1, e_il4, e_is3i, e_is3r, e_is3n, e_is4i, e_is4r, e_is4n, e_inc4i, e_inc4r, e_inc4n, e_c, e_i2, e_b1, e_b2, e_gi, e_gr, e_ald, e_ir, e_cs3, e_cv2, e_hd, e_c10, e_c1i, e_c1r, e_sh0, e_sh1, e_sh2, e_sh3, e_sh4, e_tls, e_tln, e_tl0, e_tl1, cl_0, cl_1, cl_12, cl_14, tg_0_0, tg_0_1, tg_0_2, q_R_isOutside, q_So_rowOf, Nat.reduceAdd, true_and, and_true, true_implies, not_true_eq_false, false_implies, not_false_eq_true, imp_self, forall_const, List.append_nil, ra_I, ra_J, ra_pad, true_or, or_true, Nat.reduceEqDiff, ra_bz, eq_self, if_true, if_false, false_and, and_false, Nat.zero_le, List.cons_append, List.nil_append, Nat.reduceLT, Nat.reduceLeDiff, Nat.reduceMul, Nat.reduceSub, n_0, n_1, n_2, n_3, n_4, n_5, n_6, n_7, n_8, n_9, n_10, n_12, n_40, n_48, n_57, n_59, n_72, n_99, n_102, n_103, n_107, n_108, n_192, n_255, n_256, n_999, n_1000, n_104, nI_add, pk_mul, n_cl, n_inT, n_le, n_lt, n_eq, n_m1, n_m1', n_lem1, n_m1le, n_ltm1, n_m1lt, n_lepred, n_shl, fa_or, hI.2.1.1]
      exact ⟨fun _ => h9, fun q => ⟨fun _ => h9, fun q2 => absurd ⟨Classical.not_not.mp q, Classical.not_not.mp q2⟩ hy⟩⟩
  · intro as σ0 Z h0 μ L S σ hI
    obtain ⟨rfl, y, w, h, rfl, hy, hw, hh, hI, hu, rfl, rfl⟩ := hI
    obtain ⟨_, _, e, -, hZ⟩ := x_f2 h0
    cases e
    rw [an_all_yes ⟨an_in_nI hy (by omega), an_in_nI hw (by decide)⟩, n_cl (by omega), n_cl (by omega)] at hZ
    by_cases hlt : h < ab_hc a
    · obtain ⟨t1, t2, t3⟩ := tg_s w (by omega)
      simp (disch := omega) only [b_R_all_44, b_R_all_32, b_R_all_27, b_R_all_24, b_R_all_15, b_R_all_0, e_il3, e_al0, e_il2, e_il1, e_il4, e_is3i, e_is3r, e_is3n, e_is4i, e_is4r, e_is4n, e_inc4i, e_inc4r, e_inc4n, e_c, e_i2, e_b1, e_b2, e_gi, e_gr, e_ald, e_ir, e_cs3, e_cv2, e_hd, e_c10, e_c1i, e_c1r, e_sh0, e_sh1, e_sh2, e_sh3, e_sh4, e_tls, e_tln, e_tl0, e_tl1, cl_0, cl_1, cl_12, cl_14, tg_0_0, tg_0_1, tg_0_2, q_R_isOutside, q_So_rowOf, Nat.reduceAdd, true_and, and_true, true_implies, not_true_eq_false, false_implies, not_false_eq_true, imp_self, forall_const, List.append_nil, ra_I, ra_J, ra_pad, true_or, or_true, Nat.reduceEqDiff, ra_bz, eq_self, if_true, if_false, false_and, and_false, Nat.zero_le, List.cons_append, List.nil_append, Nat.reduceLT, Nat.reduceLeDiff, Nat.reduceMul, Nat.reduceSub, n_0, n_1, n_2, n_3, n_4, n_5, n_6, n_7, n_8, n_9, n_10, n_12, n_40, n_48, n_57, n_59, n_72, n_99, n_102, n_103, n_107, n_108, n_192, n_255, n_256, n_999, n_1000, n_104, nI_add, pk_mul, n_cl, n_inT, n_le, n_lt, n_eq, n_m1, n_m1', n_lem1, n_m1le, n_ltm1, n_m1lt, n_lepred, n_shl, fa_or, hI.1.2.1.1, t2, t3]
      refine ⟨fun q => by omega, fun _ => ⟨hI, an_in_nI hw (by decide), fun σ1 g1 g2 g3 => ?_⟩⟩
      rw [show y * 8 + h = 8 * y + h by omega, g2 w y h (by omega) hy hlt, nI_add]
      exact ⟨(ab_hc a - (h + 1), 0, 0), lx1 (by omega), rfl, y, w, h + 1, rfl, hy, hw, by omega, g1, hu.tr g3, rfl, rfl⟩
    · simp (disch := omega) only [b_R_all_69, b_R_all_32, b_R_all_27, b_R_all_24, b_R_all_15, b_R_all_0, e_il3, e_al0, e_il2, e_il1, e_il4, e_is3i, e_is3r, e_is3n, e_is4i, e_is4r, e_is4n, e_inc4i, e_inc4r, e_inc4n, e_c, e_i2, e_b1, e_b2, e_gi, e_gr, e_ald, e_ir, e_cs3, e_cv2, e_hd, e_c10, e_c1i, e_c1r, e_sh0, e_sh1, e_sh2, e_sh3, e_sh4, e_tls, e_tln, e_tl0, e_tl1, cl_0, cl_1, cl_12, cl_14, tg_0_0, tg_0_1, tg_0_2, q_R_isOutside, q_So_rowOf, Nat.reduceAdd, true_and, and_true, true_implies, not_true_eq_false, false_implies, not_false_eq_true, imp_self, forall_const, List.append_nil, ra_I, ra_J, ra_pad, true_or, or_true, Nat.reduceEqDiff, ra_bz, eq_self, if_true, if_false, false_and, and_false, Nat.zero_le, List.cons_append, List.nil_append, Nat.reduceLT, Nat.reduceLeDiff, Nat.reduceMul, Nat.reduceSub, n_0, n_1, n_2, n_3, n_4, n_5, n_6, n_7, n_8, n_9, n_10, n_12, n_40, n_48, n_57, n_59, n_72, n_99, n_102, n_103, n_107, n_108, n_192, n_255, n_256, n_999, n_1000, n_104, nI_add, pk_mul, n_cl, n_inT, n_le, n_lt, n_eq, n_m1, n_m1', n_lem1, n_m1le, n_ltm1, n_m1lt, n_lepred, n_shl, fa_or, hI.1.2.1.1]
      refine ⟨fun _ => ?_, fun q => by omega⟩
      rw [show h = ab_hc a by omega]
      exact hZ σ hI hu
def sp_R_liars (a : Ab) (b : Bb) (n : Nat) : ra_Sp := ra_f0 0 (fun σ Z => rc_I a b n σ ∧ ∀ σ', rc_I a b n σ' → ra_up σ σ' → Z (some (.int (nI (li a b (ab_hc a))))) σ')
theorem q_R_liars {a : Ab} {b : Bb} {n : Nat} {oo : Nat} {σ : ra_St} {Z : ra_R} : sp_R_liars a b n [.ref oo] σ Z = (oo = 0 ∧ (rc_I a b n σ ∧ ∀ σ', rc_I a b n σ' → ra_up σ σ' → Z (some (.int (nI (li a b (ab_hc a))))) σ')) := rfl
def I_R_liars (a : Ab) (b : Bb) (n : Nat) (Z : ra_R) (as : List Value) (σ0 : ra_St) (t : Nat) (μ : ra_M) : ra_K := fun L S σ => S = [] ∧ as = [.ref 0] ∧ ∃ h : Nat, h ≤ ab_hc a ∧ rc_I a b n σ ∧ ra_up σ0 σ ∧ μ = (ab_hc a - h, 0, 0) ∧ L = [.ref 0, .int (nI (li a b h)), .int (nI h)]
theorem an_b_2 {a : Ab} (hW : ab_W a) {h : Nat} (hh : h < ab_hc a) : an_b a 2 (nI h) (nI (a 3 0)) = nI ((sm a (ab_te a) (a 3 0)).2.2.1 h) := by
  have h8 := ab_hc_8 a
  have hr12 := hW.2.2.2.2.1
  rw [an_b_yes ⟨an_hs_nI hh, an_in_nI (Nat.le_refl _) (by omega)⟩, n_cl (by omega), n_cl (by omega)]
  rfl
theorem k_R_liars {l : Launch} {X : ra_X} {a : Ab} {b : Bb} {n : Nat} (hn : n < 1000000000) (hW : ab_W a) : ra_MOK l X mi_R_liars (sp_R_liars a b n) := by
  have h8 := ab_hc_8 a
  refine g_R_liars (k_R_behind (b := b) (w := 2) hn hW) (sp_R_liars a b n) (I_R_liars a b n) ?_ ?_
  · intro as σ Z _ _ h
    obtain ⟨rfl, hI, hZ⟩ := x_f0 h
    simp (disch := omega) only [b_R_liars_59, b_R_liars_53, b_R_liars_47, b_R_liars_25, b_R_liars_15, b_R_liars_4, b_R_liars_0, e_il1, e_il2, e_al0, e_is1i, e_is1r, e_is1n, e_is2i, e_is2r, e_is2n, e_inc2i, e_inc2r, e_inc2n, e_c, e_i2, e_b2, e_gi, e_gr, e_ald, e_ir, e_cv4, e_hd, e_c10, e_c1i, e_c1r, e_sh0, e_sh1, e_sh2, e_sh3, e_sh4, e_tls, e_tln, e_tl0, e_tl1, cl_0, cl_1, cl_12, cl_72, ln_72, tg_0_0, tg_0_1, tg_0_7, q_R_behind, Nat.reduceAdd, true_and, and_true, true_implies, not_true_eq_false, false_implies, not_false_eq_true, imp_self, forall_const, List.append_nil, ra_I, ra_J, ra_pad, true_or, or_true, Nat.reduceEqDiff, ra_bz, eq_self, if_true, if_false, false_and, and_false, Nat.zero_le, List.cons_append, List.nil_append, Nat.reduceLT, Nat.reduceLeDiff, Nat.reduceMul, Nat.reduceSub, n_0, n_1, n_2, n_3, n_4, n_5, n_6, n_7, n_8, n_9, n_10, n_12, n_40, n_48, n_57, n_59, n_72, n_99, n_102, n_103, n_107, n_108, n_192, n_255, n_256, n_999, n_1000, n_104, nI_add, pk_mul, n_cl, n_inT, n_le, n_lt, n_eq, n_m1, n_m1', n_lem1, n_m1le, n_ltm1, n_m1lt, n_lepred, n_shl, fa_or]
    exact ⟨_, rfl, rfl, 0, by omega, hI, ra_up.rf, rfl, rfl⟩
  · intro as σ0 Z h0 μ L S σ hI
    obtain ⟨rfl, rfl, h, hh, hI, hu, rfl, rfl⟩ := hI
    obtain ⟨-, -, hZ⟩ := x_f0 h0
    by_cases hlt : h < ab_hc a
    · have e1 := hI.2.2.2.2.1.1 h (by omega)
      have e2 := an_b_2 hW hlt
      have go : ∀ (y : Nat) (σ' : ra_St), rc_I a b n σ' → ra_up σ σ' → y = li a b (h + 1) → ∃ μ', ra_lx μ' (ab_hc a - h, 0, 0) ∧ I_R_liars a b n Z [.ref 0] σ0 4 μ' [.ref 0, .int (nI y), .int (nI (h + 1))] [] σ' := by
        intro y σ' y1 y2 hy
        rw [hy]
        exact ⟨(ab_hc a - (h + 1), 0, 0), lx1 (by omega), rfl, rfl, h + 1, by omega, y1, hu.tr y2, rfl, rfl⟩
      simp (disch := omega) only [b_R_liars_53, b_R_liars_47, b_R_liars_25, b_R_liars_15, b_R_liars_4, b_R_liars_0, e_il1, e_il2, e_al0, e_is1i, e_is1r, e_is1n, e_is2i, e_is2r, e_is2n, e_inc2i, e_inc2r, e_inc2n, e_c, e_i2, e_b2, e_gi, e_gr, e_ald, e_ir, e_cv4, e_hd, e_c10, e_c1i, e_c1r, e_sh0, e_sh1, e_sh2, e_sh3, e_sh4, e_tls, e_tln, e_tl0, e_tl1, cl_0, cl_1, cl_12, cl_72, ln_72, tg_0_0, tg_0_1, tg_0_7, q_R_behind, Nat.reduceAdd, true_and, and_true, true_implies, not_true_eq_false, false_implies, not_false_eq_true, imp_self, forall_const, List.append_nil, ra_I, ra_J, ra_pad, true_or, or_true, Nat.reduceEqDiff, ra_bz, eq_self, if_true, if_false, false_and, and_false, Nat.zero_le, List.cons_append, List.nil_append, Nat.reduceLT, Nat.reduceLeDiff, Nat.reduceMul, Nat.reduceSub, n_0, n_1, n_2, n_3, n_4, n_5, n_6, n_7, n_8, n_9, n_10, n_12, n_40, n_48, n_57, n_59, n_72, n_99, n_102, n_103, n_107, n_108, n_192, n_255, n_256, n_999, n_1000, n_104, nI_add, pk_mul, n_cl, n_inT, n_le, n_lt, n_eq, n_m1, n_m1', n_lem1, n_m1le, n_ltm1, n_m1lt, n_lepred, n_shl, fa_or, hI.1.2.1.1, hI.2.1.1, e1, e2]
      refine ⟨fun q => by omega, fun _ => ⟨fun q => go _ σ hI ra_up.rf ?_, fun q => ⟨hI, fun σ1 g1 g2 => ⟨fun q2 => go _ σ1 g1 g2 ?_, fun q2 => go _ σ1 g1 g2 ?_⟩⟩⟩⟩
      · rw [li, if_neg (fun z => z.1 q)]
      · rw [li, if_neg (fun z => z.2 q2)]
      · rw [li, if_pos ⟨q, q2⟩]
    · simp (disch := omega) only [b_R_liars_59, b_R_liars_53, b_R_liars_47, b_R_liars_25, b_R_liars_4, b_R_liars_0, e_il1, e_il2, e_al0, e_is1i, e_is1r, e_is1n, e_is2i, e_is2r, e_is2n, e_inc2i, e_inc2r, e_inc2n, e_c, e_i2, e_b2, e_gi, e_gr, e_ald, e_ir, e_cv4, e_hd, e_c10, e_c1i, e_c1r, e_sh0, e_sh1, e_sh2, e_sh3, e_sh4, e_tls, e_tln, e_tl0, e_tl1, cl_0, cl_1, cl_12, cl_72, ln_72, tg_0_0, tg_0_1, tg_0_7, q_R_behind, Nat.reduceAdd, true_and, and_true, true_implies, not_true_eq_false, false_implies, not_false_eq_true, imp_self, forall_const, List.append_nil, ra_I, ra_J, ra_pad, true_or, or_true, Nat.reduceEqDiff, ra_bz, eq_self, if_true, if_false, false_and, and_false, Nat.zero_le, List.cons_append, List.nil_append, Nat.reduceLT, Nat.reduceLeDiff, Nat.reduceMul, Nat.reduceSub, n_0, n_1, n_2, n_3, n_4, n_5, n_6, n_7, n_8, n_9, n_10, n_12, n_40, n_48, n_57, n_59, n_72, n_99, n_102, n_103, n_107, n_108, n_192, n_255, n_256, n_999, n_1000, n_104, nI_add, pk_mul, n_cl, n_inT, n_le, n_lt, n_eq, n_m1, n_m1', n_lem1, n_m1le, n_ltm1, n_m1lt, n_lepred, n_shl, fa_or, hI.1.2.1.1]
      refine ⟨fun _ => ?_, fun q => by omega⟩
      rw [show h = ab_hc a by omega]
      exact hZ σ hI hu
def sp_R_ring (a : Ab) (b : Bb) (n : Nat) : ra_Sp := ra_f2 0 (fun x w σ Z => rc_I a b n σ ∧ Z (some (.int (an_ring a x w))) σ)
theorem q_R_ring {a : Ab} {b : Bb} {n : Nat} {oo : Nat} {x w : Int32} {σ : ra_St} {Z : ra_R} : sp_R_ring a b n [.ref oo, .int x, .int w] σ Z = (oo = 0 ∧ (rc_I a b n σ ∧ Z (some (.int (an_ring a x w))) σ)) := rfl
theorem k_R_ring {l : Launch} {X : ra_X} {a : Ab} {b : Bb} {n : Nat} : ra_MOK l X mi_R_ring (sp_R_ring a b n) := by
  have h8 := ab_hc_8 a
  refine g_R_ring (k_R_isNoHouse (a := a)) k_R_isOutside k_J_bitCount (sp_R_ring a b n) ?_
  intro as σ Z _ _ h
  obtain ⟨x, w, rfl, hI, hZ⟩ := x_f2 h
  by_cases hy : an_hs a x ∧ an_in w 1
  · rw [an_ring_yes hy] at hZ
    obtain ⟨x, hx2, rfl⟩ := an_hs_of hy.1
    rw [n_cl (by omega)] at hZ
    have hlt := ab_ring_lt hx2
    simp (disch := omega) only [b_R_ring_42, b_R_ring_38, b_R_ring_34, b_R_ring_20, b_R_ring_17, b_R_ring_8, b_R_ring_0, e_il3, e_al0, e_il1, e_il2, e_is3i, e_is3r, e_is3n, e_c, e_b1, e_gr, e_ald, e_ir, e_cs1, e_cs3, e_cv2, e_hd, e_c10, e_c1i, e_c1r, e_sh0, e_sh1, e_sh2, e_sh3, e_sh4, e_tls, e_tln, e_tl0, e_tl1, cl_0, cl_1, cl_11, ln_11, tg_0_0, tg_1_7, q_R_isNoHouse, q_R_isOutside, q_J_bitCount, Nat.reduceAdd, true_and, and_true, true_implies, not_true_eq_false, false_implies, not_false_eq_true, imp_self, forall_const, List.append_nil, ra_I, ra_J, ra_pad, true_or, or_true, Nat.reduceEqDiff, ra_bz, eq_self, if_true, if_false, false_and, and_false, Nat.zero_le, List.cons_append, List.nil_append, Nat.reduceLT, Nat.reduceLeDiff, Nat.reduceMul, Nat.reduceSub, n_0, n_1, n_2, n_3, n_4, n_5, n_6, n_7, n_8, n_9, n_10, n_12, n_40, n_48, n_57, n_59, n_72, n_99, n_102, n_103, n_107, n_108, n_192, n_255, n_256, n_999, n_1000, n_104, nI_add, pk_mul, n_cl, n_inT, n_le, n_lt, n_eq, n_m1, n_m1', n_lem1, n_m1le, n_ltm1, n_m1lt, n_lepred, n_shl, fa_or, (hI.1.2.2.2.2 x hx2).2.2]
    refine ⟨hI.1, fun q => absurd hy.1 q, fun _ => ⟨fun q => absurd hy.2 q, fun _ => ⟨fun q => ?_, fun q => ?_⟩⟩⟩
    · rw [if_pos (show w = 0 from q)] at hZ
      exact hZ
    · rw [if_neg (show ¬ w = 0 from q)] at hZ
      first | exact hZ | exact ⟨vi hlt (by decide), hZ⟩
  · rw [an_ring_no hy] at hZ
    simp (disch := omega) only [b_R_ring_42, b_R_ring_38, b_R_ring_34, b_R_ring_17, b_R_ring_8, b_R_ring_0, e_il3, e_al0, e_il1, e_il2, e_is3i, e_is3r, e_is3n, e_c, e_b1, e_gr, e_ald, e_ir, e_cs1, e_cs3, e_cv2, e_hd, e_c10, e_c1i, e_c1r, e_sh0, e_sh1, e_sh2, e_sh3, e_sh4, e_tls, e_tln, e_tl0, e_tl1, cl_0, cl_1, cl_11, ln_11, tg_0_0, tg_1_7, q_R_isNoHouse, q_R_isOutside, q_J_bitCount, Nat.reduceAdd, true_and, and_true, true_implies, not_true_eq_false, false_implies, not_false_eq_true, imp_self, forall_const, List.append_nil, ra_I, ra_J, ra_pad, true_or, or_true, Nat.reduceEqDiff, ra_bz, eq_self, if_true, if_false, false_and, and_false, Nat.zero_le, List.cons_append, List.nil_append, Nat.reduceLT, Nat.reduceLeDiff, Nat.reduceMul, Nat.reduceSub, n_0, n_1, n_2, n_3, n_4, n_5, n_6, n_7, n_8, n_9, n_10, n_12, n_40, n_48, n_57, n_59, n_72, n_99, n_102, n_103, n_107, n_108, n_192, n_255, n_256, n_999, n_1000, n_104, nI_add, pk_mul, n_cl, n_inT, n_le, n_lt, n_eq, n_m1, n_m1', n_lem1, n_m1le, n_ltm1, n_m1lt, n_lepred, n_shl, fa_or]
    exact ⟨hI.1, fun _ => hZ, fun q => ⟨fun _ => hZ, fun q2 => absurd ⟨Classical.not_not.mp q, Classical.not_not.mp q2⟩ hy⟩⟩
