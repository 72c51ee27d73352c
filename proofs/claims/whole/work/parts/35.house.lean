/-! a house as it is told, and faults -/
noncomputable def an_hw (a : Ab) (h w : Nat) : Nat := if w = 0 then ab_tl a h else if w = 1 then ab_pu a h else if w = 2 then ab_te a h else if w = 3 then ab_ow a h else ab_on a h
def sp_N_houseOf (a : Ab) : ra_Sp := ra_f2 82 (fun x w σ Z => rn_P a σ ∧ an_hs a x ∧ an_in w 4 ∧ Z (some (.int (nI (an_hw a x.toNatClampNeg w.toNatClampNeg)))) σ)
theorem q_N_houseOf {a : Ab} {oo : Nat} {x w : Int32} {σ : ra_St} {Z : ra_R} : sp_N_houseOf a [.ref oo, .int x, .int w] σ Z = (oo = 82 ∧ (rn_P a σ ∧ an_hs a x ∧ an_in w 4 ∧ Z (some (.int (nI (an_hw a x.toNatClampNeg w.toNatClampNeg)))) σ)) := rfl
theorem k_N_houseOf {l : Launch} {X : ra_X} {a : Ab} : ra_MOK l X mi_N_houseOf (sp_N_houseOf a) := by
  have h8 := ab_hc_8 a
  refine g_N_houseOf (k_N_ownerOf (a := a)) (sp_N_houseOf a) ?_
  intro as σ Z _ _ h
  obtain ⟨x, w, rfl, hP, hx, hw, hZ⟩ := x_f2 h
  obtain ⟨x, hx2, rfl⟩ := an_hs_of hx
  obtain ⟨w, hw2, rfl⟩ := an_in_of hw (by decide)
  rw [n_cl (by omega), n_cl (by omega)] at hZ
  unfold an_hw at hZ
  simp (disch := omega) only [b_N_houseOf_60, b_N_houseOf_55, b_N_houseOf_46, b_N_houseOf_41, b_N_houseOf_32, b_N_houseOf_27, b_N_houseOf_18, b_N_houseOf_13, b_N_houseOf_4, b_N_houseOf_0, e_al0, e_il1, e_il2, e_c, e_b1, e_b2, e_gr, e_ald, e_ir, e_cv2, e_hd, e_c10, e_c1i, e_c1r, e_sh0, e_sh1, e_sh2, e_sh3, e_sh4, e_tls, e_tln, e_tl0, e_tl1, cl_82, cl_85, ln_85, cl_86, ln_86, cl_87, ln_87, cl_88, ln_88, tg_82_3, tg_82_4, tg_82_5, tg_82_6, q_N_ownerOf, Nat.reduceAdd, true_and, and_true, true_implies, not_true_eq_false, false_implies, not_false_eq_true, imp_self, forall_const, List.append_nil, ra_I, ra_J, ra_pad, true_or, or_true, Nat.reduceEqDiff, ra_bz, eq_self, if_true, if_false, false_and, and_false, Nat.zero_le, List.cons_append, List.nil_append, Nat.reduceLT, Nat.reduceLeDiff, Nat.reduceMul, Nat.reduceSub, n_0, n_1, n_2, n_3, n_4, n_5, n_6, n_7, n_8, n_9, n_10, n_12, n_40, n_48, n_57, n_59, n_72, n_99, n_102, n_103, n_107, n_108, n_192, n_255, n_256, n_999, n_1000, n_104, nI_add, pk_mul, n_cl, n_inT, n_le, n_lt, n_eq, n_m1, n_m1', n_lem1, n_m1le, n_ltm1, n_m1lt, n_lepred, n_shl, fa_or, (hP.1.2 x hx2).1, (hP.1.2 x hx2).2.1, (hP.1.2 x hx2).2.2, hP.2 x hx2]
  refine ⟨fun q => ?_, fun q => ⟨fun q2 => ?_, fun q2 => ⟨fun q3 => ?_, fun q3 => ⟨fun q4 => ?_, fun q4 => ?_⟩⟩⟩⟩
  · rw [if_pos q] at hZ; exact hZ
  · rw [if_neg q, if_pos q2] at hZ; exact hZ
  · rw [if_neg q, if_neg q2, if_pos q3] at hZ; exact hZ
  · rw [if_neg q, if_neg q2, if_neg q3, if_pos q4] at hZ; exact hZ
  · rw [if_neg q, if_neg q2, if_neg q3, if_neg q4] at hZ; exact ⟨hP, hZ⟩
noncomputable def an_house (a : Ab) (x w : Int32) : Int32 := by
  classical
  exact if an_hs a x ∧ an_in w 4 then nI (an_hw a x.toNatClampNeg w.toNatClampNeg) else -2
theorem an_house_yes {a : Ab} {x w : Int32} (h : an_hs a x ∧ an_in w 4) : an_house a x w = nI (an_hw a x.toNatClampNeg w.toNatClampNeg) := by
  unfold an_house
  exact if_pos h
theorem an_house_no {a : Ab} {x w : Int32} (h : ¬ (an_hs a x ∧ an_in w 4)) : an_house a x w = -2 := by
  unfold an_house
  exact if_neg h
def sp_N_house (a : Ab) : ra_Sp := ra_f2 82 (fun x w σ Z => rn_R a σ ∧ ∀ σ', ra_fr rn_scr σ σ' → Z (some (.int (an_house a x w))) σ')
theorem q_N_house {a : Ab} {oo : Nat} {x w : Int32} {σ : ra_St} {Z : ra_R} : sp_N_house a [.ref oo, .int x, .int w] σ Z = (oo = 82 ∧ (rn_R a σ ∧ ∀ σ', ra_fr rn_scr σ σ' → Z (some (.int (an_house a x w))) σ')) := rfl
theorem k_N_house {l : Launch} {X : ra_X} {a : Ab} (hW : ab_W a) : ra_MOK l X mi_N_house (sp_N_house a) := by
  refine g_N_house (k_N_isHouse hW) k_N_in (k_N_houseOf (a := a)) (sp_N_house a) ?_
  intro as σ Z _ _ h
  obtain ⟨x, w, rfl, hR, hZ⟩ := x_f2 h
  simp (disch := omega) only [b_N_house_28, b_N_house_26, b_N_house_17, b_N_house_8, b_N_house_0, e_al0, e_il1, e_il2, e_c, e_b1, e_ir, e_cs3, e_cv3, e_hd, e_cv2, e_c10, e_c1i, e_c1r, e_sh0, e_sh1, e_sh2, e_sh3, e_sh4, e_tls, e_tln, e_tl0, e_tl1, cl_82, q_N_isHouse, q_N_in, q_N_houseOf, Nat.reduceAdd, true_and, and_true, true_implies, not_true_eq_false, false_implies, not_false_eq_true, imp_self, forall_const, List.append_nil, ra_I, ra_J, ra_pad, true_or, or_true, Nat.reduceEqDiff, ra_bz, eq_self, if_true, if_false, false_and, and_false, Nat.zero_le, List.cons_append, List.nil_append, Nat.reduceLT, Nat.reduceLeDiff, Nat.reduceMul, Nat.reduceSub, n_0, n_1, n_2, n_3, n_4, n_5, n_6, n_7, n_8, n_9, n_10, n_12, n_40, n_48, n_57, n_59, n_72, n_99, n_102, n_103, n_107, n_108, n_192, n_255, n_256, n_999, n_1000, n_104, nI_add, pk_mul, n_cl, n_in, n_le, n_lt, n_eq, n_m1, n_m1', n_lem1, n_m1le, n_ltm1, n_m1lt, n_lepred, n_shl, fa_or]
  refine ⟨hR.1, fun σ' g1 g2 => ?_⟩
  have hZ := hZ σ' (g2.mono (by decide))
  refine ⟨fun q => ⟨fun q2 => ⟨g1, q, q2, ?_⟩, fun q2 => ?_⟩, fun q => ?_⟩
  · rw [an_house_yes ⟨q, q2⟩] at hZ
    exact hZ
  · rw [an_house_no (fun z => q2 z.2)] at hZ
    exact hZ
  · rw [an_house_no (fun z => q z.1)] at hZ
    exact hZ
noncomputable def an_fault (a : Ab) (t : Int32) : Int32 := by
  classical
  exact if an_in t 1 then (if t = 0 then ab_hf a else ab_lf a) else -2
theorem an_fault_yes {a : Ab} {t : Int32} (h : an_in t 1) : an_fault a t = if t = 0 then ab_hf a else ab_lf a := by
  unfold an_fault
  exact if_pos h
theorem an_fault_no {a : Ab} {t : Int32} (h : ¬ an_in t 1) : an_fault a t = -2 := by
  unfold an_fault
  exact if_neg h
def sp_N_fault (a : Ab) : ra_Sp := ra_f1 82 (fun t σ Z => rn_R a σ ∧ ∀ σ', ra_fr rn_scr σ σ' → Z (some (.int (an_fault a t))) σ')
theorem q_N_fault {a : Ab} {oo : Nat} {t : Int32} {σ : ra_St} {Z : ra_R} : sp_N_fault a [.ref oo, .int t] σ Z = (oo = 82 ∧ (rn_R a σ ∧ ∀ σ', ra_fr rn_scr σ σ' → Z (some (.int (an_fault a t))) σ')) := rfl
theorem k_N_fault {l : Launch} {X : ra_X} {a : Ab} (hW : ab_W a) : ra_MOK l X mi_N_fault (sp_N_fault a) := by
  refine g_N_fault k_N_in (k_N_faultOf hW) (sp_N_fault a) ?_
  intro as σ Z _ _ h
  obtain ⟨t, rfl, hR, hZ⟩ := x_f1 h
  simp (disch := omega) only [b_N_fault_19, b_N_fault_17, b_N_fault_9, b_N_fault_0, e_al0, e_il1, e_c, e_b1, e_ir, e_cs3, e_cv2, e_hd, e_c10, e_c1i, e_c1r, e_sh0, e_sh1, e_sh2, e_sh3, e_sh4, e_tls, e_tln, e_tl0, e_tl1, cl_82, q_N_in, q_N_faultOf, Nat.reduceAdd, true_and, and_true, true_implies, not_true_eq_false, false_implies, not_false_eq_true, imp_self, forall_const, List.append_nil, ra_I, ra_J, ra_pad, true_or, or_true, Nat.reduceEqDiff, ra_bz, eq_self, if_true, if_false, false_and, and_false, Nat.zero_le, List.cons_append, List.nil_append, Nat.reduceLT, Nat.reduceLeDiff, Nat.reduceMul, Nat.reduceSub, n_0, n_1, n_2, n_3, n_4, n_5, n_6, n_7, n_8, n_9, n_10, n_12, n_40, n_48, n_57, n_59, n_72, n_99, n_102, n_103, n_107, n_108, n_192, n_255, n_256, n_999, n_1000, n_104, nI_add, pk_mul, n_cl, n_in, n_le, n_lt, n_eq, n_m1, n_m1', n_lem1, n_m1le, n_ltm1, n_m1lt, n_lepred, n_shl, fa_or]
  refine ⟨fun q => ⟨hR.1, fun q2 σ' g1 g2 => ?_, fun q2 σ' g1 g2 => ?_⟩, fun q => ?_⟩
  · have h9 := hZ σ' (g2.mono (by decide))
    rw [an_fault_yes q, if_pos (show t = 0 from q2)] at h9
    exact h9
  · have h9 := hZ σ' (g2.mono (by decide))
    rw [an_fault_yes q, if_neg (show ¬ t = 0 from q2)] at h9
    exact h9
  · have h9 := hZ σ ra_fr.rf
    rw [an_fault_no q] at h9
    exact h9
