def sp_R_rain (a : Ab) (b : Bb) (n : Nat) : ra_Sp := ra_f1 0 (fun v σ Z => rc_I a b n σ ∧ ∀ σ', rc_I (ab_rain a v).1 b (n + 1) σ' → ra_up σ σ' → Z (some (.int (ab_rain a v).2)) σ')
theorem q_R_rain {a : Ab} {b : Bb} {n : Nat} {oo : Nat} {v : Int32} {σ : ra_St} {Z : ra_R} : sp_R_rain a b n [.ref oo, .int v] σ Z = (oo = 0 ∧ (rc_I a b n σ ∧ ∀ σ', rc_I (ab_rain a v).1 b (n + 1) σ' → ra_up σ σ' → Z (some (.int (ab_rain a v).2)) σ')) := rfl
theorem ab_rain_stay {a : Ab} {v : Int32} (h : ¬ (an_in v 9 ∧ a 3 0 ≠ 12)) : (ab_rain a v).1 = a := by
  by_cases hv : an_in v 9
  · obtain ⟨n, hn, rfl⟩ := an_in_of hv (by decide)
    by_cases hf : a 3 0 = 12
    · rw [ab_rain_full hn hf]
    · exact absurd ⟨hv, hf⟩ h
  · rw [ab_rain_no hv]
theorem k_R_rain {l : Launch} {X : ra_X} {a : Ab} {b : Bb} {n : Nat} (hn : n < 1000000000) (hW : ab_W a) : ra_MOK l X mi_R_rain (sp_R_rain a b n) := by
  refine g_R_rain (k_Wt_take (b := b) hW) (sp_R_rain a b n) ?_
  intro as σ Z _ _ h
  obtain ⟨v, rfl, hI, hZ⟩ := x_f1 h
  simp (disch := omega) only [b_R_rain_0, e_al0, e_il1, e_gr, e_ir, e_cv2, e_hd, e_c10, e_c1i, e_c1r, e_sh0, e_sh1, e_sh2, e_sh3, e_sh4, e_tls, e_tln, e_tl0, e_tl1, cl_0, cl_12, tg_0_1, q_Wt_take, Nat.reduceAdd, true_and, and_true, true_implies, not_true_eq_false, false_implies, not_false_eq_true, imp_self, forall_const, List.append_nil, ra_I, ra_J, ra_pad, true_or, or_true, Nat.reduceEqDiff, ra_bz, eq_self, if_true, if_false, false_and, and_false, Nat.zero_le, List.cons_append, List.nil_append, Nat.reduceLT, Nat.reduceLeDiff, Nat.reduceMul, Nat.reduceSub, n_0, n_1, n_2, n_3, n_4, n_5, n_6, n_7, n_8, n_9, n_10, n_12, n_40, n_48, n_57, n_59, n_72, n_99, n_102, n_103, n_107, n_108, n_192, n_255, n_256, n_999, n_1000, n_104, nI_add, pk_mul, n_cl, n_inT, n_le, n_lt, n_eq, n_m1, n_m1', n_lem1, n_m1le, n_ltm1, n_m1lt, n_lepred, n_shl, fa_or]
  refine ⟨n, hn, hI, fun _ _ σ' g1 g2 => hZ σ' (g1.more (by omega)) g2, fun q => hZ σ ?_ ra_up.rf⟩
  rw [ab_rain_stay q]
  exact hI.more (by omega)
def sp_Wt_takeBack (a : Ab) (b : Bb) (n : Nat) : ra_Sp := ra_f0 12 (fun σ Z => rc_I a b n σ ∧ ∀ σ', rc_I (ab_undo a).1 b (n + 1) σ' → ra_up σ σ' → Z (some (.int (ab_undo a).2)) σ')
theorem q_Wt_takeBack {a : Ab} {b : Bb} {n : Nat} {oo : Nat} {σ : ra_St} {Z : ra_R} : sp_Wt_takeBack a b n [.ref oo] σ Z = (oo = 12 ∧ (rc_I a b n σ ∧ ∀ σ', rc_I (ab_undo a).1 b (n + 1) σ' → ra_up σ σ' → Z (some (.int (ab_undo a).2)) σ')) := rfl
theorem k_Wt_takeBack {l : Launch} {X : ra_X} {a : Ab} {b : Bb} {n : Nat} (hW : ab_W a) : ra_MOK l X mi_Wt_takeBack (sp_Wt_takeBack a b n) := by
  refine g_Wt_takeBack (sp_Wt_takeBack a b n) ?_
  intro as σ Z _ _ h
  obtain ⟨rfl, hI, hZ⟩ := x_f0 h
  have w := hW.2.2.2.2.1
  have hWe := hI.2.1
  unfold ab_undo at hZ
  by_cases hf : a 3 0 = 0
  · rw [if_pos hf] at hZ
    have h9 := hZ σ (hI.more (by omega)) ra_up.rf
    simp (disch := omega) only [b_Wt_takeBack_7, b_Wt_takeBack_0, e_al0, e_c, e_i2, e_b1, e_gi, e_pi, e_ir, e_dupi, e_dupr, cl_12, Nat.reduceAdd, true_and, and_true, true_implies, not_true_eq_false, false_implies, not_false_eq_true, imp_self, forall_const, List.append_nil, ra_I, ra_J, ra_pad, true_or, or_true, Nat.reduceEqDiff, ra_bz, eq_self, if_true, if_false, false_and, and_false, Nat.zero_le, List.cons_append, List.nil_append, Nat.reduceLT, Nat.reduceLeDiff, Nat.reduceMul, Nat.reduceSub, n_0, n_1, n_2, n_3, n_4, n_5, n_6, n_7, n_8, n_9, n_10, n_12, n_40, n_48, n_57, n_59, n_72, n_99, n_102, n_103, n_107, n_108, n_192, n_255, n_256, n_999, n_1000, n_104, nI_add, pk_mul, n_cl, n_inT, n_le, n_lt, n_eq, n_m1, n_m1', n_lem1, n_m1le, n_ltm1, n_m1lt, n_lepred, n_shl, fa_or, hWe.1]
    exact ⟨fun _ => h9, fun q => absurd hf q⟩
  · rw [if_neg hf] at hZ
    simp (disch := omega) only [b_Wt_takeBack_10, b_Wt_takeBack_7, b_Wt_takeBack_0, e_al0, e_c, e_i2, e_b1, e_gi, e_pi, e_ir, e_dupi, e_dupr, cl_12, Nat.reduceAdd, true_and, and_true, true_implies, not_true_eq_false, false_implies, not_false_eq_true, imp_self, forall_const, List.append_nil, ra_I, ra_J, ra_pad, true_or, or_true, Nat.reduceEqDiff, ra_bz, eq_self, if_true, if_false, false_and, and_false, Nat.zero_le, List.cons_append, List.nil_append, Nat.reduceLT, Nat.reduceLeDiff, Nat.reduceMul, Nat.reduceSub, n_0, n_1, n_2, n_3, n_4, n_5, n_6, n_7, n_8, n_9, n_10, n_12, n_40, n_48, n_57, n_59, n_72, n_99, n_102, n_103, n_107, n_108, n_192, n_255, n_256, n_999, n_1000, n_104, nI_add, pk_mul, n_cl, n_inT, n_le, n_lt, n_eq, n_m1, n_m1', n_lem1, n_m1le, n_ltm1, n_m1lt, n_lepred, n_shl, fa_or, hWe.1, n_sub, sw_at]
    refine ⟨fun q => absurd q hf, fun _ => hZ _ (hI.wea (fun i hi => ?_) (fun i hi => ?_) ?_ ?_ ?_ ?_) ?_⟩
    · funext j
      simp only [ab_u]
      rw [if_neg (by omega)]
    · funext j
      simp only [ab_u]
      rw [if_neg (by omega)]
    · simp [ab_u]
      omega
    · refine ⟨by simp [sw_at, ab_u], fun k hk => ?_, by simpa [sw_at, ab_u] using hWe.2.2.1, by simpa [sw_at, ab_u] using hWe.2.2.2⟩
      simp [ab_u] at hk
      simpa [sw_at, ab_u] using hWe.2.1 k (by omega)
    · exact ((ra_fs.rf (cs := [13]) (ss := [(12, 1), (12, 2), (12, 3), (12, 4)])).sw (Or.inr (by decide))).sw (Or.inr (by decide))
    · simp [sw_at]
      rfl
    · exact (((ra_fs.rf (cs := [13]) (ss := [(12, 1), (12, 2), (12, 3), (12, 4)])).sw (Or.inr (by decide))).sw (Or.inr (by decide))).hi (by decide)
def sp_R_undo (a : Ab) (b : Bb) (n : Nat) : ra_Sp := ra_f0 0 (fun σ Z => rc_I a b n σ ∧ ∀ σ', rc_I (ab_undo a).1 b (n + 1) σ' → ra_up σ σ' → Z (some (.int (ab_undo a).2)) σ')
theorem q_R_undo {a : Ab} {b : Bb} {n : Nat} {oo : Nat} {σ : ra_St} {Z : ra_R} : sp_R_undo a b n [.ref oo] σ Z = (oo = 0 ∧ (rc_I a b n σ ∧ ∀ σ', rc_I (ab_undo a).1 b (n + 1) σ' → ra_up σ σ' → Z (some (.int (ab_undo a).2)) σ')) := rfl
theorem k_R_undo {l : Launch} {X : ra_X} {a : Ab} {b : Bb} {n : Nat} (hW : ab_W a) : ra_MOK l X mi_R_undo (sp_R_undo a b n) := by
  refine g_R_undo (k_Wt_takeBack (b := b) (n := n) hW) (sp_R_undo a b n) ?_
  intro as σ Z _ _ h
  obtain ⟨rfl, hI, hZ⟩ := x_f0 h
  simp (disch := omega) only [b_R_undo_0, e_al0, e_gr, e_ir, e_cv1, e_hd, e_c10, e_c1i, e_c1r, e_sh0, e_sh1, e_sh2, e_sh3, e_sh4, e_tls, e_tln, e_tl0, e_tl1, cl_0, cl_12, tg_0_1, q_Wt_takeBack, Nat.reduceAdd, true_and, and_true, true_implies, not_true_eq_false, false_implies, not_false_eq_true, imp_self, forall_const, List.append_nil, ra_I, ra_J, ra_pad, true_or, or_true, Nat.reduceEqDiff, ra_bz, eq_self, if_true, if_false, false_and, and_false, Nat.zero_le, List.cons_append, List.nil_append, Nat.reduceLT, Nat.reduceLeDiff, Nat.reduceMul, Nat.reduceSub, n_0, n_1, n_2, n_3, n_4, n_5, n_6, n_7, n_8, n_9, n_10, n_12, n_40, n_48, n_57, n_59, n_72, n_99, n_102, n_103, n_107, n_108, n_192, n_255, n_256, n_999, n_1000, n_104, nI_add, pk_mul, n_cl, n_inT, n_le, n_lt, n_eq, n_m1, n_m1', n_lem1, n_m1le, n_ltm1, n_m1lt, n_lepred, n_shl, fa_or]
  exact ⟨hI, hZ⟩
def sp_Wt_changePrice (a : Ab) (b : Bb) (n : Nat) : ra_Sp := ra_f1 12 (fun v σ Z => rc_I a b n σ ∧ ∃ k : Nat, v = nI k ∧ ∀ σ', rc_I (ab_u a 5 0 k) b (n + 1) σ' → ra_up σ σ' → Z (some (.int (nI (a 5 0)))) σ')
theorem q_Wt_changePrice {a : Ab} {b : Bb} {n : Nat} {oo : Nat} {v : Int32} {σ : ra_St} {Z : ra_R} : sp_Wt_changePrice a b n [.ref oo, .int v] σ Z = (oo = 12 ∧ (rc_I a b n σ ∧ ∃ k : Nat, v = nI k ∧ ∀ σ', rc_I (ab_u a 5 0 k) b (n + 1) σ' → ra_up σ σ' → Z (some (.int (nI (a 5 0)))) σ')) := rfl
theorem k_Wt_changePrice {l : Launch} {X : ra_X} {a : Ab} {b : Bb} {n : Nat} : ra_MOK l X mi_Wt_changePrice (sp_Wt_changePrice a b n) := by
  refine g_Wt_changePrice (sp_Wt_changePrice a b n) ?_
  intro as σ Z _ _ h
  obtain ⟨_, rfl, hI, k, rfl, hZ⟩ := x_f1 h
  have hWe := hI.2.1
  simp (disch := omega) only [b_Wt_changePrice_0, e_al0, e_il1, e_il2, e_is2i, e_is2r, e_is2n, e_c, e_i2, e_gi, e_pi, e_ir, e_dupi, e_dupr, cl_12, Nat.reduceAdd, true_and, and_true, true_implies, not_true_eq_false, false_implies, not_false_eq_true, imp_self, forall_const, List.append_nil, ra_I, ra_J, ra_pad, true_or, or_true, Nat.reduceEqDiff, ra_bz, eq_self, if_true, if_false, false_and, and_false, Nat.zero_le, List.cons_append, List.nil_append, Nat.reduceLT, Nat.reduceLeDiff, Nat.reduceMul, Nat.reduceSub, n_0, n_1, n_2, n_3, n_4, n_5, n_6, n_7, n_8, n_9, n_10, n_12, n_40, n_48, n_57, n_59, n_72, n_99, n_102, n_103, n_107, n_108, n_192, n_255, n_256, n_999, n_1000, n_104, nI_add, pk_mul, n_cl, n_inT, n_le, n_lt, n_eq, n_m1, n_m1', n_lem1, n_m1le, n_ltm1, n_m1lt, n_lepred, n_shl, fa_or, hWe.2.2.1, sw_at]
  refine hZ _ (hI.wea (fun i hi => ?_) (fun i hi => ?_) ?_ ?_ ?_ ?_) ?_
  · funext j
    simp only [ab_u]
    rw [if_neg (by omega)]
  · funext j
    simp only [ab_u]
    rw [if_neg (by omega)]
  · simp [ab_u]
    omega
  · refine ⟨by simpa [sw_at, ab_u] using hWe.1, by simpa [sw_at, ab_u] using hWe.2.1, by simp [sw_at, ab_u], by simpa [sw_at, ab_u] using hWe.2.2.2⟩
  · exact ((ra_fs.rf (cs := [13]) (ss := [(12, 1), (12, 2), (12, 3), (12, 4)])).sw (Or.inr (by decide))).sw (Or.inr (by decide))
  · simp [sw_at]
    rfl
  · exact (((ra_fs.rf (cs := [13]) (ss := [(12, 1), (12, 2), (12, 3), (12, 4)])).sw (Or.inr (by decide))).sw (Or.inr (by decide))).hi (by decide)
def sp_Wt_changeWear (a : Ab) (b : Bb) (n : Nat) : ra_Sp := ra_f1 12 (fun v σ Z => rc_I a b n σ ∧ ∃ k : Nat, v = nI k ∧ ∀ σ', rc_I (ab_u a 5 1 k) b (n + 1) σ' → ra_up σ σ' → Z (some (.int (nI (a 5 1)))) σ')
theorem q_Wt_changeWear {a : Ab} {b : Bb} {n : Nat} {oo : Nat} {v : Int32} {σ : ra_St} {Z : ra_R} : sp_Wt_changeWear a b n [.ref oo, .int v] σ Z = (oo = 12 ∧ (rc_I a b n σ ∧ ∃ k : Nat, v = nI k ∧ ∀ σ', rc_I (ab_u a 5 1 k) b (n + 1) σ' → ra_up σ σ' → Z (some (.int (nI (a 5 1)))) σ')) := rfl
theorem k_Wt_changeWear {l : Launch} {X : ra_X} {a : Ab} {b : Bb} {n : Nat} : ra_MOK l X mi_Wt_changeWear (sp_Wt_changeWear a b n) := by
  refine g_Wt_changeWear (sp_Wt_changeWear a b n) ?_
  intro as σ Z _ _ h
  obtain ⟨_, rfl, hI, k, rfl, hZ⟩ := x_f1 h
  have hWe := hI.2.1
  simp (disch := omega) only [b_Wt_changeWear_0, e_al0, e_il1, e_il2, e_is2i, e_is2r, e_is2n, e_c, e_i2, e_gi, e_pi, e_ir, e_dupi, e_dupr, cl_12, Nat.reduceAdd, true_and, and_true, true_implies, not_true_eq_false, false_implies, not_false_eq_true, imp_self, forall_const, List.append_nil, ra_I, ra_J, ra_pad, true_or, or_true, Nat.reduceEqDiff, ra_bz, eq_self, if_true, if_false, false_and, and_false, Nat.zero_le, List.cons_append, List.nil_append, Nat.reduceLT, Nat.reduceLeDiff, Nat.reduceMul, Nat.reduceSub, n_0, n_1, n_2, n_3, n_4, n_5, n_6, n_7, n_8, n_9, n_10, n_12, n_40, n_48, n_57, n_59, n_72, n_99, n_102, n_103, n_107, n_108, n_192, n_255, n_256, n_999, n_1000, n_104, nI_add, pk_mul, n_cl, n_inT, n_le, n_lt, n_eq, n_m1, n_m1', n_lem1, n_m1le, n_ltm1, n_m1lt, n_lepred, n_shl, fa_or, hWe.2.2.2, sw_at]
  refine hZ _ (hI.wea (fun i hi => ?_) (fun i hi => ?_) ?_ ?_ ?_ ?_) ?_
  · funext j
    simp only [ab_u]
    rw [if_neg (by omega)]
  · funext j
    simp only [ab_u]
    rw [if_neg (by omega)]
  · simp [ab_u]
    omega
  · refine ⟨by simpa [sw_at, ab_u] using hWe.1, by simpa [sw_at, ab_u] using hWe.2.1, by simpa [sw_at, ab_u] using hWe.2.2.1, by simp [sw_at, ab_u]⟩
  · exact ((ra_fs.rf (cs := [13]) (ss := [(12, 1), (12, 2), (12, 3), (12, 4)])).sw (Or.inr (by decide))).sw (Or.inr (by decide))
  · simp [sw_at]
    rfl
  · exact (((ra_fs.rf (cs := [13]) (ss := [(12, 1), (12, 2), (12, 3), (12, 4)])).sw (Or.inr (by decide))).sw (Or.inr (by decide))).hi (by decide)
theorem ab_set_0 {a : Ab} {v : Int32} (hv : 1 ≤ v ∧ v ≤ 9) : ab_set a 0 v = (ab_u a 5 0 v.toNatClampNeg, nI (a 5 0)) := by
  unfold ab_set
  exact if_pos ⟨rfl, hv⟩
theorem ab_set_1 {a : Ab} {v : Int32} (hv : 0 ≤ v ∧ v ≤ 1) : ab_set a 1 v = (ab_u a 5 1 v.toNatClampNeg, nI (a 5 1)) := by
  unfold ab_set
  rw [if_neg (fun z => absurd z.1 (by decide))]
  exact if_pos ⟨rfl, hv⟩
theorem ab_set_no {a : Ab} {w v : Int32} (h0 : ¬ (w = 0 ∧ 1 ≤ v ∧ v ≤ 9)) (h1 : ¬ (w = 1 ∧ 0 ≤ v ∧ v ≤ 1)) : ab_set a w v = (a, -2) := by
  unfold ab_set
  rw [if_neg h0, if_neg h1]
def sp_R_set (a : Ab) (b : Bb) (n : Nat) : ra_Sp := ra_f2 0 (fun w v σ Z => rc_I a b n σ ∧ ∀ σ', rc_I (ab_set a w v).1 b (n + 1) σ' → ra_up σ σ' → Z (some (.int (ab_set a w v).2)) σ')
theorem q_R_set {a : Ab} {b : Bb} {n : Nat} {oo : Nat} {w v : Int32} {σ : ra_St} {Z : ra_R} : sp_R_set a b n [.ref oo, .int w, .int v] σ Z = (oo = 0 ∧ (rc_I a b n σ ∧ ∀ σ', rc_I (ab_set a w v).1 b (n + 1) σ' → ra_up σ σ' → Z (some (.int (ab_set a w v).2)) σ')) := rfl
theorem k_R_set {l : Launch} {X : ra_X} {a : Ab} {b : Bb} {n : Nat} : ra_MOK l X mi_R_set (sp_R_set a b n) := by
  refine g_R_set k_R_isOutside (k_Wt_changePrice (a := a) (b := b) (n := n)) (k_Wt_changeWear (a := a) (b := b) (n := n)) (sp_R_set a b n) ?_
  intro as σ Z _ _ h
  obtain ⟨w, v, rfl, hI, hZ⟩ := x_f2 h
  simp (disch := omega) only [b_R_set_56, b_R_set_55, b_R_set_47, b_R_set_42, b_R_set_33, b_R_set_28, b_R_set_27, b_R_set_19, b_R_set_14, b_R_set_4, b_R_set_0, e_al0, e_il2, e_il1, e_c, e_b1, e_b2, e_gr, e_ir, e_cs3, e_cv2, e_hd, e_c10, e_c1i, e_c1r, e_sh0, e_sh1, e_sh2, e_sh3, e_sh4, e_tls, e_tln, e_tl0, e_tl1, cl_0, cl_12, tg_0_1, q_R_isOutside, q_Wt_changePrice, q_Wt_changeWear, Nat.reduceAdd, true_and, and_true, true_implies, not_true_eq_false, false_implies, not_false_eq_true, imp_self, forall_const, List.append_nil, ra_I, ra_J, ra_pad, true_or, or_true, Nat.reduceEqDiff, ra_bz, eq_self, if_true, if_false, false_and, and_false, Nat.zero_le, List.cons_append, List.nil_append, Nat.reduceLT, Nat.reduceLeDiff, Nat.reduceMul, Nat.reduceSub, n_0, n_1, n_2, n_3, n_4, n_5, n_6, n_7, n_8, n_9, n_10, n_12, n_40, n_48, n_57, n_59, n_72, n_99, n_102, n_103, n_107, n_108, n_192, n_255, n_256, n_999, n_1000, n_104, nI_add, pk_mul, n_cl, n_inT, n_le, n_lt, n_eq, n_m1, n_m1', n_lem1, n_m1le, n_ltm1, n_m1lt, n_lepred, n_shl, fa_or]
  have no : ¬ (w = 0 ∧ 1 ≤ v ∧ v ≤ 9) → ¬ (w = 1 ∧ 0 ≤ v ∧ v ≤ 1) → Z (some (.int (-2))) σ := by
    intro q1 q2
    rw [ab_set_no q1 q2] at hZ
    exact hZ σ (hI.more (by omega)) ra_up.rf
  refine ⟨fun q0 => ⟨fun q => no (fun z => q z.2) (fun z => ?_), fun q => ⟨hI, v.toNatClampNeg, ?_, fun σ' g1 g2 => ?_⟩⟩, fun q0 => ⟨fun q1 => ⟨fun q => no (fun z => q0 z.1) (fun z => q z.2), fun q => ⟨hI, v.toNatClampNeg, ?_, fun σ' g1 g2 => ?_⟩⟩, fun q1 => no (fun z => q0 z.1) (fun z => q1 z.1)⟩⟩
  · rw [q0] at z
    exact absurd z.1 (by decide)
  · exact (n_clof (n_0le (Classical.not_not.mp q).1)).symm
  · rw [q0, show ab_set a (nI 0) v = _ from ab_set_0 (Classical.not_not.mp q)] at hZ
    exact hZ σ' g1 g2
  · exact (n_clof (Classical.not_not.mp q).1).symm
  · rw [q1, show ab_set a (nI 1) v = _ from ab_set_1 (Classical.not_not.mp q)] at hZ
    exact hZ σ' g1 g2
def sp_R_isNoNumber  : ra_Sp := ra_s1 (fun x σ Z => ra_bz (¬ an_in x 7) Z σ)
theorem q_R_isNoNumber  {x : Int32} {σ : ra_St} {Z : ra_R} : sp_R_isNoNumber  [.int x] σ Z = (ra_bz (¬ an_in x 7) Z σ) := rfl
theorem k_R_isNoNumber {l : Launch} {X : ra_X} : ra_MOK l X mi_R_isNoNumber sp_R_isNoNumber := by
  refine g_R_isNoNumber k_R_isOutside sp_R_isNoNumber ?_
  intro as σ Z _ _ h
  obtain ⟨x, rfl, hZ⟩ := x_s1 h
  simp (disch := omega) only [b_R_isNoNumber_0, e_il0, e_c, e_zr, e_cs3, e_c10, e_c1i, e_c1r, e_sh0, e_sh1, e_sh2, e_sh3, e_sh4, e_tls, e_tln, e_tl0, e_tl1, q_R_isOutside, Nat.reduceAdd, true_and, and_true, true_implies, not_true_eq_false, false_implies, not_false_eq_true, imp_self, forall_const, List.append_nil, ra_I, ra_J, ra_pad, true_or, or_true, Nat.reduceEqDiff, ra_bz, eq_self, if_true, if_false, false_and, and_false, Nat.zero_le, List.cons_append, List.nil_append, Nat.reduceLT, Nat.reduceLeDiff, Nat.reduceMul, Nat.reduceSub, n_0, n_1, n_2, n_3, n_4, n_5, n_6, n_7, n_8, n_9, n_10, n_12, n_40, n_48, n_57, n_59, n_72, n_99, n_102, n_103, n_107, n_108, n_192, n_255, n_256, n_999, n_1000, n_104, nI_add, pk_mul, n_cl, n_inT, n_le, n_lt, n_eq, n_m1, n_m1', n_lem1, n_m1le, n_ltm1, n_m1lt, n_lepred, n_shl, fa_or]
  exact hZ
theorem rc_I.wis {a a' : Ab} {b : Bb} {n : Nat} {σ σ' : ra_St} (h : rc_I a b n σ) (e : ∀ i, i ≠ 6 → a' i = a i) (hX : rc_X a' σ') (hf : ra_fs [43, 44, 45, 46, 47, 48, 49, 50] [(41, 8)] σ σ') (hc : σ' 41 8 = σ 41 8 + 1) : rc_I a' b (n + 1) σ' := by
  obtain ⟨h1, h2, h3, h4, h5, v, w, e', k, h6, h7, h8, h9, h10, h11, h12⟩ := h
  refine ⟨(lc_V (e 0 (by decide)) (e 1 (by decide)) (e 2 (by decide)) h1).fs hf (by decide), ?_, hX, ?_, h5.fs hf (by decide), v, w, e' + 1, k, ?_, ⟨?_, ?_, ?_, ?_⟩, ?_, ?_, ?_, ?_, ?_⟩
  · exact ab_same_W (h2.fs hf (by decide)) (by rw [e 3 (by decide)]) (e 4 (by decide)) (e 5 (by decide))
  · exact ab_same_K (h4.fs hf (by decide)) (by rw [e 7 (by decide)]) (e 8 (by decide)) (e 9 (by decide)) (e 10 (by decide))
  · rw [e 3 (by decide)]; omega
  · rw [← h7.1]; exact hf 1 11 (by decide) (by decide)
  · rw [← h7.2.1]; exact hf 12 4 (by decide) (by decide)
  · rw [hc, h7.2.2.1, n_1, nI_add]
  · rw [← h7.2.2.2]; exact hf 54 10 (by decide) (by decide)
  · exact lc_S (fun i hi => e i (by omega)) (h8.fs hf (by decide))
  · exact lc_M (fun i hi => e i (by omega)) (h9.fs hf (by decide))
  · exact (h10.fs hf (by decide)).more (by omega)
  · exact (h11.fs hf (by decide)).more (by omega)
  · exact lc_J (e 0 (by decide)) (e 1 (by decide)) (e 7 (by decide)) (e 8 (by decide)) (e 9 (by decide)) (e 10 (by decide)) (h12.fs hf (by decide))
theorem rc_I.fac {a a' : Ab} {b : Bb} {n : Nat} {σ σ' : ra_St} (h : rc_I a b n σ) (e : ∀ i, i < 7 → a' i = a i) (hK : rc_K a' σ') (hf : ra_fs [55, 56, 57] [(54, 8), (54, 10)] σ σ') (hc : σ' 54 10 = σ 54 10 + 1) : rc_I a' b (n + 1) σ' := by
  obtain ⟨h1, h2, h3, h4, h5, v, w, e', k, h6, h7, h8, h9, h10, h11, h12⟩ := h
  refine ⟨(lc_V (e 0 (by decide)) (e 1 (by decide)) (e 2 (by decide)) h1).fs hf (by decide), ?_, ?_, hK, h5.fs hf (by decide), v, w, e', k + 1, ?_, ⟨?_, ?_, ?_, ?_⟩, ?_, ?_, ?_, ?_, ?_⟩
  · exact ab_same_W (h2.fs hf (by decide)) (by rw [e 3 (by decide)]) (e 4 (by decide)) (e 5 (by decide))
  · exact ab_same_X (h3.fs hf (by decide)) (e 6 (by decide))
  · rw [e 3 (by decide)]; omega
  · rw [← h7.1]; exact hf 1 11 (by decide) (by decide)
  · rw [← h7.2.1]; exact hf 12 4 (by decide) (by decide)
  · rw [← h7.2.2.1]; exact hf 41 8 (by decide) (by decide)
  · rw [hc, h7.2.2.2, n_1, nI_add]
  · exact lc_S (fun i hi => e i (by omega)) (h8.fs hf (by decide))
  · exact lc_M (fun i hi => e i (by omega)) (h9.fs hf (by decide))
  · exact lc_Y (e 0 (by decide)) (e 1 (by decide)) (e 2 (by decide)) (e 6 (by decide)) (h10.fs hf (by decide))
  · exact lc_B (e 0 (by decide)) (e 1 (by decide)) (e 6 (by decide)) (h11.fs hf (by decide))
  · exact (h12.fs hf (by decide)).more (by omega)
theorem tg_w : ∀ i, i < 8 → ra_tgt 42 i = 43 + i ∧ ra_cls (43 + i) = 0 ∧ ra_len (43 + i) = 8 := by decide +kernel
theorem tg_k : ∀ i, i < 8 → ra_tgt 61 i = 62 + i ∧ ra_cls (62 + i) = 0 ∧ ra_len (62 + i) = 8 := by decide +kernel
theorem tg_s : ∀ i, i < 4 → ra_tgt 23 i = 24 + i ∧ ra_cls (24 + i) = 0 ∧ ra_len (24 + i) = 104 := by decide +kernel
theorem tg_q : ∀ i, i < 4 → ra_tgt 73 i = 74 + 2 * i ∧ ra_cls (74 + 2 * i) = 14 ∧ ra_tgt (74 + 2 * i) 0 = 75 + 2 * i ∧ ra_cls (75 + 2 * i) = 0 ∧ ra_len (75 + 2 * i) = 48 := by decide +kernel
def sp_Ex_change (a : Ab) (b : Bb) (n : Nat) : ra_Sp := ra_f3 41 (fun x y v σ Z => rc_I a b n σ ∧ ∃ i j k : Nat, x = nI i ∧ y = nI j ∧ v = nI k ∧ i < 8 ∧ j < 8 ∧ k ≤ 9 ∧ ∀ σ', rc_I (ab_u a 6 (8 * i + j) k) b (n + 1) σ' → ra_up σ σ' → Z (some (.int (nI (a 6 (8 * i + j))))) σ')
theorem q_Ex_change {a : Ab} {b : Bb} {n : Nat} {oo : Nat} {x y v : Int32} {σ : ra_St} {Z : ra_R} : sp_Ex_change a b n [.ref oo, .int x, .int y, .int v] σ Z = (oo = 41 ∧ (rc_I a b n σ ∧ ∃ i j k : Nat, x = nI i ∧ y = nI j ∧ v = nI k ∧ i < 8 ∧ j < 8 ∧ k ≤ 9 ∧ ∀ σ', rc_I (ab_u a 6 (8 * i + j) k) b (n + 1) σ' → ra_up σ σ' → Z (some (.int (nI (a 6 (8 * i + j))))) σ')) := rfl
theorem k_Ex_change {l : Launch} {X : ra_X} {a : Ab} {b : Bb} {n : Nat} : ra_MOK l X mi_Ex_change (sp_Ex_change a b n) := by
  refine g_Ex_change (sp_Ex_change a b n) ?_
  intro as σ Z _ _ h
  obtain ⟨_, _, _, rfl, hI, i, j, k, rfl, rfl, rfl, hi, hj, hk, hZ⟩ := x_f3 h
  have hX := hI.2.2.1
  have e := hX i j hi hj
  obtain ⟨t1, t2, t3⟩ := tg_w i hi
  simp (disch := omega) only [b_Ex_change_0, e_al0, e_il1, e_il2, e_il3, e_il4, e_is4i, e_is4r, e_is4n, e_c, e_i2, e_gi, e_gr, e_pi, e_ald, e_ast, e_rld, e_ir, e_dupi, e_dupr, cl_41, cl_42, ln_42, tg_41_1, Nat.reduceAdd, true_and, and_true, true_implies, not_true_eq_false, false_implies, not_false_eq_true, imp_self, forall_const, List.append_nil, ra_I, ra_J, ra_pad, true_or, or_true, Nat.reduceEqDiff, ra_bz, eq_self, if_true, if_false, false_and, and_false, Nat.zero_le, List.cons_append, List.nil_append, Nat.reduceLT, Nat.reduceLeDiff, Nat.reduceMul, Nat.reduceSub, n_0, n_1, n_2, n_3, n_4, n_5, n_6, n_7, n_8, n_9, n_10, n_12, n_40, n_48, n_57, n_59, n_72, n_99, n_102, n_103, n_107, n_108, n_192, n_255, n_256, n_999, n_1000, n_104, nI_add, pk_mul, n_cl, n_inT, n_le, n_lt, n_eq, n_m1, n_m1', n_lem1, n_m1le, n_ltm1, n_m1lt, n_lepred, n_shl, fa_or, t1, t2, t3, e, sw_at]
  rw [if_neg (by omega)]
  have hf : ra_fs [43, 44, 45, 46, 47, 48, 49, 50] [(41, 8)] σ (ra_sw (ra_sw σ (43 + i) j (nI k)) 41 8 (σ 41 8 + nI 1)) := (ra_fs.rf.sw (Or.inl (by simp; omega))).sw (Or.inr (by decide))
  refine hZ _ (hI.wis (fun p hp => ?_) (fun p r hp hr => ?_) hf (by simp [sw_at]; rfl)) (hf.hi (by decide))
  · funext q
    simp only [ab_u]
    rw [if_neg (by omega)]
  · rw [sw_at, if_neg (by omega), sw_at]
    simp only [ab_u]
    by_cases e1 : p = i
    · subst e1
      by_cases e2 : r = j
      · subst e2; simp
      · rw [if_pos rfl, if_neg e2, if_neg (by omega)]
        exact hX p r hp hr
    · rw [if_neg (by omega), if_neg (by omega)]
      exact hX p r hp hr
theorem ab_wish_yes {a : Ab} {x y v : Nat} (hx : x ≤ 7) (hy : y ≤ 7) (hv : v ≤ 9) : ab_wish a (nI x) (nI y) (nI v) = (ab_u a 6 (8 * x + y) v, nI (a 6 (8 * x + y))) := by
  unfold ab_wish
  rw [if_pos ⟨an_in_nI hx (by decide), an_in_nI hy (by decide), an_in_nI hv (by decide)⟩, n_cl (by omega), n_cl (by omega), n_cl (by omega)]
theorem ab_wish_no {a : Ab} {x y v : Int32} (h : ¬ (an_in x 7 ∧ an_in y 7 ∧ an_in v 9)) : ab_wish a x y v = (a, -2) := by
  unfold ab_wish
  exact if_neg h
def sp_R_wish (a : Ab) (b : Bb) (n : Nat) : ra_Sp := ra_f3 0 (fun x y v σ Z => rc_I a b n σ ∧ ∀ σ', rc_I (ab_wish a x y v).1 b (n + 1) σ' → ra_up σ σ' → Z (some (.int (ab_wish a x y v).2)) σ')
theorem q_R_wish {a : Ab} {b : Bb} {n : Nat} {oo : Nat} {x y v : Int32} {σ : ra_St} {Z : ra_R} : sp_R_wish a b n [.ref oo, .int x, .int y, .int v] σ Z = (oo = 0 ∧ (rc_I a b n σ ∧ ∀ σ', rc_I (ab_wish a x y v).1 b (n + 1) σ' → ra_up σ σ' → Z (some (.int (ab_wish a x y v).2)) σ')) := rfl
theorem k_R_wish {l : Launch} {X : ra_X} {a : Ab} {b : Bb} {n : Nat} : ra_MOK l X mi_R_wish (sp_R_wish a b n) := by
  refine g_R_wish k_R_isNoNumber k_R_isOutside (k_Ex_change (a := a) (b := b) (n := n)) (sp_R_wish a b n) ?_
  intro as σ Z _ _ h
  obtain ⟨x, y, v, rfl, hI, hZ⟩ := x_f3 h
  by_cases hy : an_in x 7 ∧ an_in y 7 ∧ an_in v 9
  · obtain ⟨x, hx, rfl⟩ := an_in_of hy.1 (by decide)
    obtain ⟨y, hy2, rfl⟩ := an_in_of hy.2.1 (by decide)
    obtain ⟨v, hv, rfl⟩ := an_in_of hy.2.2 (by decide)
    rw [ab_wish_yes hx hy2 hv] at hZ
    simp (disch := omega) only [b_R_wish_27, b_R_wish_24, b_R_wish_14, b_R_wish_7, b_R_wish_0, e_al0, e_il1, e_il2, e_il3, e_c, e_b1, e_gr, e_ir, e_cs3, e_cs1, e_cv4, e_hd, e_c10, e_c1i, e_c1r, e_sh0, e_sh1, e_sh2, e_sh3, e_sh4, e_tls, e_tln, e_tl0, e_tl1, cl_0, cl_41, tg_0_4, q_R_isNoNumber, q_R_isOutside, q_Ex_change, Nat.reduceAdd, true_and, and_true, true_implies, not_true_eq_false, false_implies, not_false_eq_true, imp_self, forall_const, List.append_nil, ra_I, ra_J, ra_pad, true_or, or_true, Nat.reduceEqDiff, ra_bz, eq_self, if_true, if_false, false_and, and_false, Nat.zero_le, List.cons_append, List.nil_append, Nat.reduceLT, Nat.reduceLeDiff, Nat.reduceMul, Nat.reduceSub, n_0, n_1, n_2, n_3, n_4, n_5, n_6, n_7, n_8, n_9, n_10, n_12, n_40, n_48, n_57, n_59, n_72, n_99, n_102, n_103, n_107, n_108, n_192, n_255, n_256, n_999, n_1000, n_104, nI_add, pk_mul, n_cl, n_inT, n_le, n_lt, n_eq, n_m1, n_m1', n_lem1, n_m1le, n_ltm1, n_m1lt, n_lepred, n_shl, fa_or]
    exact ⟨fun q => absurd hy.1 q, fun _ => ⟨fun q => absurd hy.2.1 q, fun _ => ⟨fun q => absurd hv q, fun _ => ⟨hI, x, y, v, rfl, rfl, rfl, by omega, by omega, hv, hZ⟩⟩⟩⟩
  · rw [ab_wish_no hy] at hZ
    have h9 := hZ σ (hI.more (by omega)) ra_up.rf
    simp (disch := omega) only [b_R_wish_24, b_R_wish_14, b_R_wish_7, b_R_wish_0, e_al0, e_il1, e_il2, e_il3, e_c, e_b1, e_gr, e_ir, e_cs3, e_cs1, e_cv4, e_hd, e_c10, e_c1i, e_c1r, e_sh0, e_sh1, e_sh2, e_sh3, e_sh4, e_tls, e_tln, e_tl0, e_tl1, cl_0, cl_41, tg_0_4, q_R_isNoNumber, q_R_isOutside, q_Ex_change, Nat.reduceAdd, true_and, and_true, true_implies, not_true_eq_false, false_implies, not_false_eq_true, imp_self, forall_const, List.append_nil, ra_I, ra_J, ra_pad, true_or, or_true, Nat.reduceEqDiff, ra_bz, eq_self, if_true, if_false, false_and, and_false, Nat.zero_le, List.cons_append, List.nil_append, Nat.reduceLT, Nat.reduceLeDiff, Nat.reduceMul, Nat.reduceSub, n_0, n_1, n_2, n_3, n_4, n_5, n_6, n_7, n_8, n_9, n_10, n_12, n_40, n_48, n_57, n_59, n_72, n_99, n_102, n_103, n_107, n_108, n_192, n_255, n_256, n_999, n_1000, n_104, nI_add, pk_mul, n_cl, n_inT, n_le, n_lt, n_eq, n_m1, n_m1', n_lem1, n_m1le, n_ltm1, n_m1lt, n_lepred, n_shl, fa_or]
    exact ⟨fun _ => h9, fun q => ⟨fun _ => h9, fun q2 => ⟨fun _ => h9, fun q3 => absurd ⟨Classical.not_not.mp q, Classical.not_not.mp q2, Classical.not_not.mp q3⟩ hy⟩⟩⟩
def sp_Kn_learn (a : Ab) (b : Bb) (n : Nat) : ra_Sp := ra_f3 54 (fun x y v σ Z => rc_I a b n σ ∧ ∃ i j k : Nat, x = nI i ∧ y = nI j ∧ v = nI k ∧ (a 7 0 = 12 → Z (some (.int (-4))) σ) ∧ (a 7 0 ≠ 12 → ∀ σ', rc_I (ab_u (ab_u (ab_u (ab_u a 8 (a 7 0) i) 9 (a 7 0) j) 10 (a 7 0) k) 7 0 (a 7 0 + 1)) b (n + 1) σ' → ra_up σ σ' → Z (some (.int (nI (a 7 0 + 1)))) σ'))
theorem q_Kn_learn {a : Ab} {b : Bb} {n : Nat} {oo : Nat} {x y v : Int32} {σ : ra_St} {Z : ra_R} : sp_Kn_learn a b n [.ref oo, .int x, .int y, .int v] σ Z = (oo = 54 ∧ (rc_I a b n σ ∧ ∃ i j k : Nat, x = nI i ∧ y = nI j ∧ v = nI k ∧ (a 7 0 = 12 → Z (some (.int (-4))) σ) ∧ (a 7 0 ≠ 12 → ∀ σ', rc_I (ab_u (ab_u (ab_u (ab_u a 8 (a 7 0) i) 9 (a 7 0) j) 10 (a 7 0) k) 7 0 (a 7 0 + 1)) b (n + 1) σ' → ra_up σ σ' → Z (some (.int (nI (a 7 0 + 1)))) σ'))) := rfl
theorem k_Kn_learn {l : Launch} {X : ra_X} {a : Ab} {b : Bb} {n : Nat} (hW : ab_W a) : ra_MOK l X mi_Kn_learn (sp_Kn_learn a b n) := by
  refine g_Kn_learn (sp_Kn_learn a b n) ?_
  intro as σ Z _ _ h
  obtain ⟨_, _, _, rfl, hI, i, j, k, rfl, rfl, rfl, h1, h2⟩ := x_f3 h
  have hK := hI.2.2.2.1
  have w := hW.2.2.2.2.2.2.2.2.2.2.1
  by_cases hf : a 7 0 = 12
  · simp (disch := omega) only [b_Kn_learn_9, b_Kn_learn_0, e_al0, e_il1, e_il2, e_il3, e_c, e_i2, e_b2, e_gi, e_gr, e_pi, e_ast, e_ir, e_dupi, e_dupr, cl_54, cl_55, ln_55, cl_56, ln_56, cl_57, ln_57, tg_54_1, tg_54_2, tg_54_3, Nat.reduceAdd, true_and, and_true, true_implies, not_true_eq_false, false_implies, not_false_eq_true, imp_self, forall_const, List.append_nil, ra_I, ra_J, ra_pad, true_or, or_true, Nat.reduceEqDiff, ra_bz, eq_self, if_true, if_false, false_and, and_false, Nat.zero_le, List.cons_append, List.nil_append, Nat.reduceLT, Nat.reduceLeDiff, Nat.reduceMul, Nat.reduceSub, n_0, n_1, n_2, n_3, n_4, n_5, n_6, n_7, n_8, n_9, n_10, n_12, n_40, n_48, n_57, n_59, n_72, n_99, n_102, n_103, n_107, n_108, n_192, n_255, n_256, n_999, n_1000, n_104, nI_add, pk_mul, n_cl, n_inT, n_le, n_lt, n_eq, n_m1, n_m1', n_lem1, n_m1le, n_ltm1, n_m1lt, n_lepred, n_shl, fa_or, hK.1]
    exact ⟨fun q => by omega, fun _ => h1 hf⟩
  · simp (disch := omega) only [b_Kn_learn_12, b_Kn_learn_9, b_Kn_learn_0, e_al0, e_il1, e_il2, e_il3, e_c, e_i2, e_b2, e_gi, e_gr, e_pi, e_ast, e_ir, e_dupi, e_dupr, cl_54, cl_55, ln_55, cl_56, ln_56, cl_57, ln_57, tg_54_1, tg_54_2, tg_54_3, Nat.reduceAdd, true_and, and_true, true_implies, not_true_eq_false, false_implies, not_false_eq_true, imp_self, forall_const, List.append_nil, ra_I, ra_J, ra_pad, true_or, or_true, Nat.reduceEqDiff, ra_bz, eq_self, if_true, if_false, false_and, and_false, Nat.zero_le, List.cons_append, List.nil_append, Nat.reduceLT, Nat.reduceLeDiff, Nat.reduceMul, Nat.reduceSub, n_0, n_1, n_2, n_3, n_4, n_5, n_6, n_7, n_8, n_9, n_10, n_12, n_40, n_48, n_57, n_59, n_72, n_99, n_102, n_103, n_107, n_108, n_192, n_255, n_256, n_999, n_1000, n_104, nI_add, pk_mul, n_cl, n_inT, n_le, n_lt, n_eq, n_m1, n_m1', n_lem1, n_m1le, n_ltm1, n_m1lt, n_lepred, n_shl, fa_or, hK.1, sw_at]
    have hfs : ra_fs [55, 56, 57] [(54, 8), (54, 10)] σ (ra_sw (ra_sw (ra_sw (ra_sw (ra_sw σ 55 (a 7 0) (nI i)) 56 (a 7 0) (nI j)) 57 (a 7 0) (nI k)) 54 8 (nI (a 7 0 + 1))) 54 10 (σ 54 10 + nI 1)) := ((((ra_fs.rf.sw (Or.inl (by decide))).sw (Or.inl (by decide))).sw (Or.inl (by decide))).sw (Or.inr (by decide))).sw (Or.inr (by decide))
    refine ⟨fun q => h2 hf _ (hI.fac (fun p hp => ?_) ⟨?_, fun q hq => ?_⟩ hfs (by simp [sw_at]; rfl)) (hfs.hi (by decide)), fun q => by omega⟩
    · funext q
      simp only [ab_u]
      rw [if_neg (by omega), if_neg (by omega), if_neg (by omega), if_neg (by omega)]
    · simp [sw_at, ab_u]
    · simp [ab_u] at hq
      by_cases e : q = a 7 0
      · subst e; simp [sw_at, ab_u]
      · simpa [sw_at, ab_u, e] using hK.2 q (by omega)
theorem ab_fact_yes {a : Ab} {x y v : Nat} (hx : x ≤ 7) (hy : y ≤ 7) (hv : v ≤ 1) : ab_fact a (nI x) (nI y) (nI v) = if a 7 0 = 12 then (a, -4) else (ab_u (ab_u (ab_u (ab_u a 8 (a 7 0) x) 9 (a 7 0) y) 10 (a 7 0) v) 7 0 (a 7 0 + 1), nI (a 7 0 + 1)) := by
  unfold ab_fact
  rw [if_pos ⟨an_in_nI hx (by decide), an_in_nI hy (by decide), an_in_nI hv (by decide)⟩, n_cl (by omega), n_cl (by omega), n_cl (by omega)]
theorem ab_fact_no {a : Ab} {x y v : Int32} (h : ¬ (an_in x 7 ∧ an_in y 7 ∧ an_in v 1)) : ab_fact a x y v = (a, -2) := by
  unfold ab_fact
  exact if_neg h
def sp_R_fact (a : Ab) (b : Bb) (n : Nat) : ra_Sp := ra_f3 0 (fun x y v σ Z => rc_I a b n σ ∧ ∀ σ', rc_I (ab_fact a x y v).1 b (n + 1) σ' → ra_up σ σ' → Z (some (.int (ab_fact a x y v).2)) σ')
theorem q_R_fact {a : Ab} {b : Bb} {n : Nat} {oo : Nat} {x y v : Int32} {σ : ra_St} {Z : ra_R} : sp_R_fact a b n [.ref oo, .int x, .int y, .int v] σ Z = (oo = 0 ∧ (rc_I a b n σ ∧ ∀ σ', rc_I (ab_fact a x y v).1 b (n + 1) σ' → ra_up σ σ' → Z (some (.int (ab_fact a x y v).2)) σ')) := rfl
theorem k_R_fact {l : Launch} {X : ra_X} {a : Ab} {b : Bb} {n : Nat} (hW : ab_W a) : ra_MOK l X mi_R_fact (sp_R_fact a b n) := by
  refine g_R_fact k_R_isNoNumber k_R_isOutside (k_Kn_learn (b := b) (n := n) hW) (sp_R_fact a b n) ?_
  intro as σ Z _ _ h
  obtain ⟨x, y, v, rfl, hI, hZ⟩ := x_f3 h
  by_cases hy : an_in x 7 ∧ an_in y 7 ∧ an_in v 1
  · obtain ⟨x, hx, rfl⟩ := an_in_of hy.1 (by decide)
    obtain ⟨y, hy2, rfl⟩ := an_in_of hy.2.1 (by decide)
    obtain ⟨v, hv, rfl⟩ := an_in_of hy.2.2 (by decide)
    rw [ab_fact_yes hx hy2 hv] at hZ
    simp (disch := omega) only [b_R_fact_26, b_R_fact_23, b_R_fact_14, b_R_fact_7, b_R_fact_0, e_al0, e_il1, e_il2, e_il3, e_c, e_b1, e_gr, e_ir, e_cs3, e_cs1, e_cv4, e_hd, e_c10, e_c1i, e_c1r, e_sh0, e_sh1, e_sh2, e_sh3, e_sh4, e_tls, e_tln, e_tl0, e_tl1, cl_0, cl_54, tg_0_5, q_R_isNoNumber, q_R_isOutside, q_Kn_learn, Nat.reduceAdd, true_and, and_true, true_implies, not_true_eq_false, false_implies, not_false_eq_true, imp_self, forall_const, List.append_nil, ra_I, ra_J, ra_pad, true_or, or_true, Nat.reduceEqDiff, ra_bz, eq_self, if_true, if_false, false_and, and_false, Nat.zero_le, List.cons_append, List.nil_append, Nat.reduceLT, Nat.reduceLeDiff, Nat.reduceMul, Nat.reduceSub, n_0, n_1, n_2, n_3, n_4, n_5, n_6, n_7, n_8, n_9, n_10, n_12, n_40, n_48, n_57, n_59, n_72, n_99, n_102, n_103, n_107, n_108, n_192, n_255, n_256, n_999, n_1000, n_104, nI_add, pk_mul, n_cl, n_inT, n_le, n_lt, n_eq, n_m1, n_m1', n_lem1, n_m1le, n_ltm1, n_m1lt, n_lepred, n_shl, fa_or]
    refine ⟨fun q => absurd hy.1 q, fun _ => ⟨fun q => absurd hy.2.1 q, fun _ => ⟨fun q => absurd hv q, fun _ => ⟨hI, x, y, v, rfl, rfl, rfl, fun q => ?_, fun q => ?_⟩⟩⟩⟩
    · rw [if_pos q] at hZ
      exact hZ σ (hI.more (by omega)) ra_up.rf
    · rw [if_neg q] at hZ
      exact hZ
  · rw [ab_fact_no hy] at hZ
    have h9 := hZ σ (hI.more (by omega)) ra_up.rf
    simp (disch := omega) only [b_R_fact_23, b_R_fact_14, b_R_fact_7, b_R_fact_0, e_al0, e_il1, e_il2, e_il3, e_c, e_b1, e_gr, e_ir, e_cs3, e_cs1, e_cv4, e_hd, e_c10, e_c1i, e_c1r, e_sh0, e_sh1, e_sh2, e_sh3, e_sh4, e_tls, e_tln, e_tl0, e_tl1, cl_0, cl_54, tg_0_5, q_R_isNoNumber, q_R_isOutside, q_Kn_learn, Nat.reduceAdd, true_and, and_true, true_implies, not_true_eq_false, false_implies, not_false_eq_true, imp_self, forall_const, List.append_nil, ra_I, ra_J, ra_pad, true_or, or_true, Nat.reduceEqDiff, ra_bz, eq_self, if_true, if_false, false_and, and_false, Nat.zero_le, List.cons_append, List.nil_append, Nat.reduceLT, Nat.reduceLeDiff, Nat.reduceMul, Nat.reduceSub, n_0, n_1, n_2, n_3, n_4, n_5, n_6, n_7, n_8, n_9, n_10, n_12, n_40, n_48, n_57, n_59, n_72, n_99, n_102, n_103, n_107, n_108, n_192, n_255, n_256, n_999, n_1000, n_104, nI_add, pk_mul, n_cl, n_inT, n_le, n_lt, n_eq, n_m1, n_m1', n_lem1, n_m1le, n_ltm1, n_m1lt, n_lepred, n_shl, fa_or]
    exact ⟨fun _ => h9, fun q => ⟨fun _ => h9, fun q2 => ⟨fun _ => h9, fun q3 => absurd ⟨Classical.not_not.mp q, Classical.not_not.mp q2, Classical.not_not.mp q3⟩ hy⟩⟩⟩
def sp_Kn_clear (a : Ab) (b : Bb) (n : Nat) : ra_Sp := ra_f0 54 (fun σ Z => rc_I a b n σ ∧ ∀ σ', rc_I (ab_forget a).1 b (n + 1) σ' → ra_up σ σ' → Z (some (.int (ab_forget a).2)) σ')
theorem q_Kn_clear {a : Ab} {b : Bb} {n : Nat} {oo : Nat} {σ : ra_St} {Z : ra_R} : sp_Kn_clear a b n [.ref oo] σ Z = (oo = 54 ∧ (rc_I a b n σ ∧ ∀ σ', rc_I (ab_forget a).1 b (n + 1) σ' → ra_up σ σ' → Z (some (.int (ab_forget a).2)) σ')) := rfl
theorem k_Kn_clear {l : Launch} {X : ra_X} {a : Ab} {b : Bb} {n : Nat} : ra_MOK l X mi_Kn_clear (sp_Kn_clear a b n) := by
  refine g_Kn_clear (sp_Kn_clear a b n) ?_
  intro as σ Z _ _ h
  obtain ⟨rfl, hI, hZ⟩ := x_f0 h
  have hK := hI.2.2.2.1
  simp (disch := omega) only [b_Kn_clear_0, e_al0, e_il1, e_is1i, e_is1r, e_is1n, e_c, e_i2, e_gi, e_pi, e_ir, e_dupi, e_dupr, cl_54, Nat.reduceAdd, true_and, and_true, true_implies, not_true_eq_false, false_implies, not_false_eq_true, imp_self, forall_const, List.append_nil, ra_I, ra_J, ra_pad, true_or, or_true, Nat.reduceEqDiff, ra_bz, eq_self, if_true, if_false, false_and, and_false, Nat.zero_le, List.cons_append, List.nil_append, Nat.reduceLT, Nat.reduceLeDiff, Nat.reduceMul, Nat.reduceSub, n_0, n_1, n_2, n_3, n_4, n_5, n_6, n_7, n_8, n_9, n_10, n_12, n_40, n_48, n_57, n_59, n_72, n_99, n_102, n_103, n_107, n_108, n_192, n_255, n_256, n_999, n_1000, n_104, nI_add, pk_mul, n_cl, n_inT, n_le, n_lt, n_eq, n_m1, n_m1', n_lem1, n_m1le, n_ltm1, n_m1lt, n_lepred, n_shl, fa_or, hK.1, sw_at]
  have hfs : ra_fs [55, 56, 57] [(54, 8), (54, 10)] σ (ra_sw (ra_sw σ 54 8 (nI 0)) 54 10 (σ 54 10 + nI 1)) := (ra_fs.rf.sw (Or.inr (by decide))).sw (Or.inr (by decide))
  refine hZ _ (hI.fac (fun p hp => ?_) ⟨?_, fun q hq => ?_⟩ hfs (by simp [sw_at]; rfl)) (hfs.hi (by decide))
  · funext q
    simp only [ab_forget, ab_u]
    rw [if_neg (by omega)]
  · simp [sw_at, ab_u, ab_forget]
  · simp [ab_u, ab_forget] at hq
def sp_R_forget (a : Ab) (b : Bb) (n : Nat) : ra_Sp := ra_f0 0 (fun σ Z => rc_I a b n σ ∧ ∀ σ', rc_I (ab_forget a).1 b (n + 1) σ' → ra_up σ σ' → Z (some (.int (ab_forget a).2)) σ')
theorem q_R_forget {a : Ab} {b : Bb} {n : Nat} {oo : Nat} {σ : ra_St} {Z : ra_R} : sp_R_forget a b n [.ref oo] σ Z = (oo = 0 ∧ (rc_I a b n σ ∧ ∀ σ', rc_I (ab_forget a).1 b (n + 1) σ' → ra_up σ σ' → Z (some (.int (ab_forget a).2)) σ')) := rfl
theorem k_R_forget {l : Launch} {X : ra_X} {a : Ab} {b : Bb} {n : Nat} : ra_MOK l X mi_R_forget (sp_R_forget a b n) := by
  refine g_R_forget (k_Kn_clear (a := a) (b := b) (n := n)) (sp_R_forget a b n) ?_
  intro as σ Z _ _ h
  obtain ⟨rfl, hI, hZ⟩ := x_f0 h
  simp (disch := omega) only [b_R_forget_0, e_al0, e_gr, e_ir, e_cv1, e_hd, e_c10, e_c1i, e_c1r, e_sh0, e_sh1, e_sh2, e_sh3, e_sh4, e_tls, e_tln, e_tl0, e_tl1, cl_0, cl_54, tg_0_5, q_Kn_clear, Nat.reduceAdd, true_and, and_true, true_implies, not_true_eq_false, false_implies, not_false_eq_true, imp_self, forall_const, List.append_nil, ra_I, ra_J, ra_pad, true_or, or_true, Nat.reduceEqDiff, ra_bz, eq_self, if_true, if_false, false_and, and_false, Nat.zero_le, List.cons_append, List.nil_append, Nat.reduceLT, Nat.reduceLeDiff, Nat.reduceMul, Nat.reduceSub, n_0, n_1, n_2, n_3, n_4, n_5, n_6, n_7, n_8, n_9, n_10, n_12, n_40, n_48, n_57, n_59, n_72, n_99, n_102, n_103, n_107, n_108, n_192, n_255, n_256, n_999, n_1000, n_104, nI_add, pk_mul, n_cl, n_inT, n_le, n_lt, n_eq, n_m1, n_m1', n_lem1, n_m1le, n_ltm1, n_m1lt, n_lepred, n_shl, fa_or]
  exact ⟨hI, hZ⟩
theorem rc_I.oth {a : Ab} {b b' : Bb} {n : Nat} {σ σ' : ra_St} (h : rc_I a b n σ) (hC : rc_C b' σ') (hf : ra_fs [72, 74, 75, 76, 77, 78, 79, 80, 81] [(0, 9)] σ σ') : rc_I a b' (n + 1) σ' := by
  obtain ⟨h1, h2, h3, h4, h5, v, w, e', k, h6, h7, h8, h9, h10, h11, h12⟩ := h
  exact ⟨h1.fs hf (by decide), h2.fs hf (by decide), h3.fs hf (by decide), h4.fs hf (by decide), hC, v, w, e', k, by omega, h7.fs hf (by decide), h8.fs hf (by decide), h9.fs hf (by decide), h10.fs hf (by decide), h11.fs hf (by decide), h12.fs hf (by decide)⟩
def sp_R_claim (a : Ab) (b : Bb) (n : Nat) : ra_Sp := ra_f2 0 (fun x v σ Z => rc_I a b n σ ∧ ∀ σ', rc_I a (bb_claim b x v).1 (n + 1) σ' → ra_up σ σ' → Z (some (.int (bb_claim b x v).2)) σ')
theorem q_R_claim {a : Ab} {b : Bb} {n : Nat} {oo : Nat} {x v : Int32} {σ : ra_St} {Z : ra_R} : sp_R_claim a b n [.ref oo, .int x, .int v] σ Z = (oo = 0 ∧ (rc_I a b n σ ∧ ∀ σ', rc_I a (bb_claim b x v).1 (n + 1) σ' → ra_up σ σ' → Z (some (.int (bb_claim b x v).2)) σ')) := rfl
theorem k_R_claim {l : Launch} {X : ra_X} {a : Ab} {b : Bb} {n : Nat} : ra_MOK l X mi_R_claim (sp_R_claim a b n) := by
  refine g_R_claim k_R_isNoNumber k_R_isOutside (sp_R_claim a b n) ?_
  intro as σ Z _ _ h
  obtain ⟨x, v, rfl, hI, hZ⟩ := x_f2 h
  have hC := hI.2.2.2.2.1
  by_cases hy : an_in x 7 ∧ -1 ≤ v ∧ v ≤ 999
  · obtain ⟨x, hx, rfl⟩ := an_in_of hy.1 (by decide)
    rw [bb_claim_yes hx hy.2] at hZ
    simp (disch := omega) only [b_R_claim_21, b_R_claim_18, b_R_claim_7, b_R_claim_0, e_al0, e_il1, e_il2, e_il3, e_is3i, e_is3r, e_is3n, e_c, e_b1, e_gr, e_ald, e_ast, e_ir, e_cs3, e_cs1, e_c10, e_c1i, e_c1r, e_sh0, e_sh1, e_sh2, e_sh3, e_sh4, e_tls, e_tln, e_tl0, e_tl1, cl_0, cl_72, ln_72, tg_0_7, q_R_isNoNumber, q_R_isOutside, Nat.reduceAdd, true_and, and_true, true_implies, not_true_eq_false, false_implies, not_false_eq_true, imp_self, forall_const, List.append_nil, ra_I, ra_J, ra_pad, true_or, or_true, Nat.reduceEqDiff, ra_bz, eq_self, if_true, if_false, false_and, and_false, Nat.zero_le, List.cons_append, List.nil_append, Nat.reduceLT, Nat.reduceLeDiff, Nat.reduceMul, Nat.reduceSub, n_0, n_1, n_2, n_3, n_4, n_5, n_6, n_7, n_8, n_9, n_10, n_12, n_40, n_48, n_57, n_59, n_72, n_99, n_102, n_103, n_107, n_108, n_192, n_255, n_256, n_999, n_1000, n_104, nI_add, pk_mul, n_cl, n_inT, n_le, n_lt, n_eq, n_m1, n_m1', n_lem1, n_m1le, n_ltm1, n_m1lt, n_lepred, n_shl, fa_or, hC.1 x (by omega)]
    have hf : ra_fs [72, 74, 75, 76, 77, 78, 79, 80, 81] [(0, 9)] σ (ra_sw σ 72 x v) := ra_fs.rf.sw (Or.inl (by decide))
    refine ⟨fun q => absurd hy.1 q, fun _ => ⟨fun q => absurd hy.2 q, fun _ => hZ _ (hI.oth ⟨fun i hi => ?_, ?_, fun s hs => ?_⟩ hf) (hf.hi (by decide))⟩⟩
    · by_cases e : i = x
      · subst e; simp [sw_at, bb_u]
      · simpa [sw_at, bb_u, e] using hC.1 i hi
    · simpa [sw_at, bb_u] using hC.2.1
    · have := hC.2.2 s hs
      simpa [sw_at, bb_u, show ¬ 74 + 2 * s = 72 by omega, show ¬ 75 + 2 * s = 72 by omega] using this
  · rw [bb_claim_no hy] at hZ
    have h9 := hZ σ (hI.more (by omega)) ra_up.rf
    simp (disch := omega) only [b_R_claim_18, b_R_claim_7, b_R_claim_0, e_al0, e_il1, e_il2, e_il3, e_is3i, e_is3r, e_is3n, e_c, e_b1, e_gr, e_ald, e_ast, e_ir, e_cs3, e_cs1, e_c10, e_c1i, e_c1r, e_sh0, e_sh1, e_sh2, e_sh3, e_sh4, e_tls, e_tln, e_tl0, e_tl1, cl_0, cl_72, ln_72, tg_0_7, q_R_isNoNumber, q_R_isOutside, Nat.reduceAdd, true_and, and_true, true_implies, not_true_eq_false, false_implies, not_false_eq_true, imp_self, forall_const, List.append_nil, ra_I, ra_J, ra_pad, true_or, or_true, Nat.reduceEqDiff, ra_bz, eq_self, if_true, if_false, false_and, and_false, Nat.zero_le, List.cons_append, List.nil_append, Nat.reduceLT, Nat.reduceLeDiff, Nat.reduceMul, Nat.reduceSub, n_0, n_1, n_2, n_3, n_4, n_5, n_6, n_7, n_8, n_9, n_10, n_12, n_40, n_48, n_57, n_59, n_72, n_99, n_102, n_103, n_107, n_108, n_192, n_255, n_256, n_999, n_1000, n_104, nI_add, pk_mul, n_cl, n_inT, n_le, n_lt, n_eq, n_m1, n_m1', n_lem1, n_m1le, n_ltm1, n_m1lt, n_lepred, n_shl, fa_or]
    exact ⟨fun _ => h9, fun q => ⟨fun _ => h9, fun q2 => absurd ⟨Classical.not_not.mp q, Classical.not_not.mp q2⟩ hy⟩⟩
