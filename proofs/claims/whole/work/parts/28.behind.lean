/-- is it a house -/
def an_hs (a : Ab) (x : Int32) : Prop := 0 ≤ x ∧ x ≤ nI (ab_hc a) - 1
theorem an_hs_of {a : Ab} {x : Int32} (h : an_hs a x) : ∃ n, n < ab_hc a ∧ x = nI n := by
  obtain ⟨n, h1, rfl⟩ := nI_of (fun q => (fa_of_lt q).2.1 h.1)
  have h8 := ab_hc_8 a
  have h2 : nI n ≤ nI (ab_hc a) - nI 1 := h.2
  refine ⟨n, ?_, rfl⟩
  rw [fa_le, nI_toInt h1, pk_sub_toInt (by omega) (by omega)] at h2
  omega
theorem an_hs_nI {a : Ab} {n : Nat} (h : n < ab_hc a) : an_hs a (nI n) := by
  have h8 := ab_hc_8 a
  refine ⟨?_, ?_⟩
  · show nI 0 ≤ nI n
    rw [n_le (by omega) (by omega)]
    omega
  · show nI n ≤ nI (ab_hc a) - nI 1
    rw [n_lepred (by omega) (by omega)]
    exact h
def an_in (x : Int32) (n : Nat) : Prop := 0 ≤ x ∧ x ≤ nI n
theorem an_in_of {x : Int32} {n : Nat} (h : an_in x n) (hn : n < 2147483648) : ∃ k, k ≤ n ∧ x = nI k := by
  obtain ⟨k, h1, rfl⟩ := nI_of (fun q => (fa_of_lt q).2.1 h.1)
  have h2 := h.2
  rw [n_le h1 hn] at h2
  exact ⟨k, h2, rfl⟩
theorem an_in_nI {k n : Nat} (h : k ≤ n) (hn : n < 2147483648) : an_in (nI k) n := by
  refine ⟨?_, ?_⟩
  · show nI 0 ≤ nI k
    rw [n_le (by omega) (by omega)]
    omega
  · rw [n_le (by omega) (by omega)]
    exact h
def sm_g (m : Sm) (what h : Nat) : Nat := if what = 0 then m.1 h else if what = 1 then m.2.1 h else if what = 2 then m.2.2.1 h else m.2.2.2.1 h
def sp_N_lays (a : Ab) : ra_Sp := ra_f1 82 (fun x σ Z => rn_R a σ ∧ an_in x (a 3 0) ∧ ∀ σ', rn_M a (sm a (ab_te a) x.toNatClampNeg) σ' → rn_P a σ' → ra_fr rn_scr σ σ' → Z none σ')
theorem q_N_lays {a : Ab} {oo : Nat} {x : Int32} {σ : ra_St} {Z : ra_R} : sp_N_lays a [.ref oo, .int x] σ Z = (oo = 82 ∧ (rn_R a σ ∧ an_in x (a 3 0) ∧ ∀ σ', rn_M a (sm a (ab_te a) x.toNatClampNeg) σ' → rn_P a σ' → ra_fr rn_scr σ σ' → Z none σ')) := rfl
def I_N_lays (a : Ab) (Z : ra_R) (as : List Value) (σ0 : ra_St) (t : Nat) (μ : ra_M) : ra_K := fun L S σ => S = [] ∧ ∃ h mn : Nat, as = [.ref 82, .int (nI mn)] ∧ mn ≤ a 3 0 ∧ h ≤ ab_hc a ∧ rn_R a σ ∧ rn_P a σ ∧ ra_fr rn_scr σ0 σ ∧ (∀ j, j < h → σ 92 j = nI (ab_te a j)) ∧ μ = (ab_hc a - h, 0, 0) ∧ L = [.ref 82, .int (nI mn), .int (nI h)]
theorem rn_P.fr {a : Ab} {σ σ' : ra_St} {cs : List Nat} (h : rn_P a σ) (hf : ra_fr cs σ σ') (h2 : σ' 82 2 = σ 82 2) (hs : 85 ∉ cs ∧ 86 ∉ cs ∧ 87 ∉ cs ∧ 88 ∉ cs) : rn_P a σ' := by
  obtain ⟨⟨g1, g2⟩, g3⟩ := h
  refine ⟨⟨by rw [h2]; exact g1, ?_⟩, ?_⟩
  · rw [hf.1 85 hs.1 (by decide), hf.1 86 hs.2.1 (by decide), hf.1 87 hs.2.2.1 (by decide)]
    exact g2
  · rw [hf.1 88 hs.2.2.2 (by decide)]
    exact g3
theorem k_N_lays {l : Launch} {X : ra_X} {a : Ab} (hW : ab_W a) : ra_MOK l X mi_N_lays (sp_N_lays a) := by
  have h8 := ab_hc_8 a
  have hr12 := hW.2.2.2.2.1
  refine g_N_lays (k_N_reads hW) (k_N_runs hW) (sp_N_lays a) (I_N_lays a) ?_ ?_
  · intro as σ Z _ _ h
    obtain ⟨x, rfl, hR, hx, hZ⟩ := x_f1 h
    obtain ⟨mn, hm, rfl⟩ := an_in_of hx (by omega)
    simp only [b_N_lays_32, b_N_lays_14, b_N_lays_6, b_N_lays_0, e_al0, e_il1, e_il2, e_is2i, e_is2r, e_is2n, e_inc2i, e_inc2r, e_inc2n, e_c, e_b2, e_gi, e_gr, e_ald, e_ast, e_vr, e_cv2, e_hd, e_cv1, e_c10, e_c1i, e_c1r, e_sh0, e_sh1, e_sh2, e_sh3, e_sh4, e_tls, e_tln, e_tl0, e_tl1, cl_82, cl_87, ln_87, cl_92, ln_92, tg_82_5, tg_82_11, q_N_reads, q_N_runs, Nat.reduceAdd, true_and, and_true, true_implies, not_true_eq_false, false_implies, not_false_eq_true, imp_self, forall_const, List.append_nil, ra_I, ra_J, ra_pad, true_or, or_true, Nat.reduceEqDiff, ra_bz, eq_self, if_true, if_false, false_and, and_false, Nat.zero_le, List.cons_append, List.nil_append, Nat.reduceLT, Nat.reduceLeDiff, Nat.reduceMul, Nat.reduceSub]
    exact ⟨hR.1, fun σ1 hP hf => ⟨_, rfl, 0, mn, rfl, hm, by omega, hR.fr hf (by decide), hP, hf.mono (by decide), fun j hj => by omega, rfl, rfl⟩⟩
  · intro as σ0 Z h0 μ L S σ hI
    obtain ⟨rfl, h, mn, rfl, hm, hh, hR, hP, hf, hq, rfl, rfl⟩ := hI
    obtain ⟨x, e, hR0, hx, hZ⟩ := x_f1 h0
    cases e
    rw [n_cl (by omega)] at hZ
    simp (disch := omega) only [b_N_lays_32, b_N_lays_14, b_N_lays_6, b_N_lays_0, e_al0, e_il1, e_il2, e_is2i, e_is2r, e_is2n, e_inc2i, e_inc2r, e_inc2n, e_c, e_b2, e_gi, e_gr, e_ald, e_ast, e_vr, e_cv2, e_hd, e_cv1, e_c10, e_c1i, e_c1r, e_sh0, e_sh1, e_sh2, e_sh3, e_sh4, e_tls, e_tln, e_tl0, e_tl1, cl_82, cl_87, ln_87, cl_92, ln_92, tg_82_5, tg_82_11, q_N_reads, q_N_runs, Nat.reduceAdd, true_and, and_true, true_implies, not_true_eq_false, false_implies, not_false_eq_true, imp_self, forall_const, List.append_nil, ra_I, ra_J, ra_pad, true_or, or_true, Nat.reduceEqDiff, ra_bz, eq_self, if_true, if_false, false_and, and_false, Nat.zero_le, List.cons_append, List.nil_append, Nat.reduceLT, Nat.reduceLeDiff, Nat.reduceMul, Nat.reduceSub, n_0, n_1, n_2, n_3, n_4, n_5, n_6, n_7, n_8, n_9, n_10, n_12, n_40, n_48, n_57, n_59, n_72, n_99, n_102, n_103, n_107, n_108, n_192, n_255, n_256, n_999, n_1000, n_104, nI_add, pk_mul, n_cl, n_inT, n_le, n_lt, n_eq, n_m1, n_m1', n_lem1, n_m1le, n_ltm1, n_m1lt, n_lepred, n_shl, fa_or, hP.1.1]
    refine ⟨fun q => ⟨ab_te a, hR, hP, fun j hj => ⟨hq j (by omega), ab_te_3 hj⟩, hm, fun σ' g1 g2 g3 => hZ σ' g1 (hP.fr g2 (by rw [g3, hP.1.1]) (by decide)) (hf.tr g2 (by decide))⟩, fun q => ?_⟩
    simp (disch := omega) only [n_inT, true_and, (hP.1.2 h (by omega)).2.2]
    have hf1 : ra_fr [92] σ (ra_sw σ 92 h (nI (ab_te a h))) := ra_fr.rf.sw (by decide) (by decide)
    refine ⟨(ab_hc a - (h + 1), 0, 0), lx1 (by omega), rfl, h + 1, mn, rfl, hm, by omega, hR.fr hf1 (by decide), hP.fr hf1 (by simp [sw_at]) (by decide), hf.tr hf1 (by decide), fun j hj => ?_, rfl, rfl⟩
    rw [sw_at, if_pos rfl]
    split
    · next e => rw [e]
    · exact hq j (by omega)
def sp_N_behind (a : Ab) : ra_Sp := ra_f3 82 (fun x y w σ Z => rn_R a σ ∧ an_hs a x ∧ an_in y (a 3 0) ∧ an_in w 3 ∧ ∀ σ', rn_P a σ' → ra_fr rn_scr σ σ' → Z (some (.int (nI (sm_g (sm a (ab_te a) y.toNatClampNeg) w.toNatClampNeg x.toNatClampNeg)))) σ')
theorem q_N_behind {a : Ab} {oo : Nat} {x y w : Int32} {σ : ra_St} {Z : ra_R} : sp_N_behind a [.ref oo, .int x, .int y, .int w] σ Z = (oo = 82 ∧ (rn_R a σ ∧ an_hs a x ∧ an_in y (a 3 0) ∧ an_in w 3 ∧ ∀ σ', rn_P a σ' → ra_fr rn_scr σ σ' → Z (some (.int (nI (sm_g (sm a (ab_te a) y.toNatClampNeg) w.toNatClampNeg x.toNatClampNeg)))) σ')) := rfl
theorem k_N_behind {l : Launch} {X : ra_X} {a : Ab} (hW : ab_W a) : ra_MOK l X mi_N_behind (sp_N_behind a) := by
  have h8 := ab_hc_8 a
  have hr12 := hW.2.2.2.2.1
  refine g_N_behind (k_N_lays hW) (sp_N_behind a) ?_
  intro as σ Z _ _ h
  obtain ⟨x, y, w, rfl, hR, hx, hy, hw, hZ⟩ := x_f3 h
  obtain ⟨n, hn, rfl⟩ := an_hs_of hx
  obtain ⟨w, hw2, rfl⟩ := an_in_of hw (by decide)
  rw [n_cl (by omega), n_cl (by omega)] at hZ
  simp (disch := omega) only [b_N_behind_52, b_N_behind_46, b_N_behind_37, b_N_behind_32, b_N_behind_23, b_N_behind_18, b_N_behind_9, b_N_behind_0, e_al0, e_il1, e_il3, e_il2, e_c, e_b1, e_b2, e_gr, e_ald, e_ir, e_cv2, e_hd, e_c10, e_c1i, e_c1r, e_sh0, e_sh1, e_sh2, e_sh3, e_sh4, e_tls, e_tln, e_tl0, e_tl1, cl_82, cl_93, ln_93, cl_94, ln_94, cl_95, ln_95, cl_96, ln_96, tg_82_12, tg_82_13, tg_82_14, tg_82_15, q_N_lays, Nat.reduceAdd, true_and, and_true, true_implies, not_true_eq_false, false_implies, not_false_eq_true, imp_self, forall_const, List.append_nil, ra_I, ra_J, ra_pad, true_or, or_true, Nat.reduceEqDiff, ra_bz, eq_self, if_true, if_false, false_and, and_false, Nat.zero_le, List.cons_append, List.nil_append, Nat.reduceLT, Nat.reduceLeDiff, Nat.reduceMul, Nat.reduceSub, n_0, n_1, n_2, n_3, n_4, n_5, n_6, n_7, n_8, n_9, n_10, n_12, n_40, n_48, n_57, n_59, n_72, n_99, n_102, n_103, n_107, n_108, n_192, n_255, n_256, n_999, n_1000, n_104, nI_add, pk_mul, n_cl, n_inT, n_le, n_lt, n_eq, n_m1, n_m1', n_lem1, n_m1le, n_ltm1, n_m1lt, n_lepred, n_shl, fa_or]
  refine ⟨hR, hy, fun σ' g1 g2 g3 => ?_⟩
  obtain ⟨e1, e2, e3, e4, -⟩ := g1 n hn
  have h9 := hZ σ' g2 g3
  unfold sm_g at h9
  rw [e1, e2, e3, e4]
  refine ⟨fun q => ?_, fun q => ⟨fun q2 => ?_, fun q2 => ⟨fun q3 => ?_, fun q3 => ?_⟩⟩⟩
  · rw [if_pos q] at h9; exact h9
  · rw [if_neg q, if_pos q2] at h9; exact h9
  · rw [if_neg q, if_neg q2, if_pos q3] at h9; exact h9
  · rw [if_neg q, if_neg q2, if_neg q3] at h9; exact h9
def sp_N_isAt (a : Ab) : ra_Sp := ra_f2 82 (fun x y σ Z => rn_R a σ ∧ ∀ σ', ra_fr rn_scr σ σ' → ra_bz (an_hs a x ∧ an_in y (a 3 0)) Z σ')
theorem q_N_isAt {a : Ab} {oo : Nat} {x y : Int32} {σ : ra_St} {Z : ra_R} : sp_N_isAt a [.ref oo, .int x, .int y] σ Z = (oo = 82 ∧ (rn_R a σ ∧ ∀ σ', ra_fr rn_scr σ σ' → ra_bz (an_hs a x ∧ an_in y (a 3 0)) Z σ')) := rfl
theorem k_N_isAt {l : Launch} {X : ra_X} {a : Ab} (hW : ab_W a) : ra_MOK l X mi_N_isAt (sp_N_isAt a) := by
  refine g_N_isAt (k_N_isHouse hW) k_N_in (sp_N_isAt a) ?_
  intro as σ Z _ _ h
  obtain ⟨x, y, rfl, hR, hZ⟩ := x_f2 h
  simp (disch := omega) only [b_N_isAt_25, b_N_isAt_24, b_N_isAt_20, b_N_isAt_8, b_N_isAt_0, e_il2, e_al0, e_il1, e_c, e_b1, e_gi, e_zr, e_cs3, e_cv2, e_hd, e_c10, e_c1i, e_c1r, e_sh0, e_sh1, e_sh2, e_sh3, e_sh4, e_tls, e_tln, e_tl0, e_tl1, cl_82, q_N_isHouse, q_N_in, Nat.reduceAdd, true_and, and_true, true_implies, not_true_eq_false, false_implies, not_false_eq_true, imp_self, forall_const, List.append_nil, ra_I, ra_J, ra_pad, true_or, or_true, Nat.reduceEqDiff, ra_bz, eq_self, if_true, if_false, false_and, and_false, Nat.zero_le, List.cons_append, List.nil_append, Nat.reduceLT, Nat.reduceLeDiff, Nat.reduceMul, Nat.reduceSub, n_0, n_1, n_2, n_3, n_4, n_5, n_6, n_7, n_8, n_9, n_10, n_12, n_40, n_48, n_57, n_59, n_72, n_99, n_102, n_103, n_107, n_108, n_192, n_255, n_256, n_999, n_1000, n_104, nI_add, pk_mul, n_cl, n_in, n_le, n_lt, n_eq, n_m1, n_m1', n_lem1, n_m1le, n_ltm1, n_m1lt, n_lepred, n_shl, fa_or]
  refine ⟨hR.1, fun σ' g1 g2 => ?_⟩
  have hZ := hZ σ' (g2.mono (by decide))
  rw [(hR.fr g2 (by decide)).2.1]
  exact ⟨fun q => ⟨fun q2 => hZ.1 ⟨q, q2⟩, fun q2 => hZ.2 (fun w => q2 w.2)⟩, fun q => hZ.2 (fun w => q w.1)⟩
/-- what tiles, purse, harm, laid answer -/
noncomputable def an_b (a : Ab) (w : Nat) (x y : Int32) : Int32 := by
  classical
  exact if an_hs a x ∧ an_in y (a 3 0) then nI (sm_g (sm a (ab_te a) y.toNatClampNeg) w x.toNatClampNeg) else -2
theorem an_b_yes {a : Ab} {w : Nat} {x y : Int32} (h : an_hs a x ∧ an_in y (a 3 0)) : an_b a w x y = nI (sm_g (sm a (ab_te a) y.toNatClampNeg) w x.toNatClampNeg) := by
  unfold an_b
  exact if_pos h
theorem an_b_no {a : Ab} {w : Nat} {x y : Int32} (h : ¬ (an_hs a x ∧ an_in y (a 3 0))) : an_b a w x y = -2 := by
  unfold an_b
  exact if_neg h
def sp_N_tiles (a : Ab) : ra_Sp := ra_f2 82 (fun x y σ Z => rn_R a σ ∧ ∀ σ', ra_fr rn_scr σ σ' → Z (some (.int (an_b a 0 x y))) σ')
theorem q_N_tiles {a : Ab} {oo : Nat} {x y : Int32} {σ : ra_St} {Z : ra_R} : sp_N_tiles a [.ref oo, .int x, .int y] σ Z = (oo = 82 ∧ (rn_R a σ ∧ ∀ σ', ra_fr rn_scr σ σ' → Z (some (.int (an_b a 0 x y))) σ')) := rfl
theorem k_N_tiles {l : Launch} {X : ra_X} {a : Ab} (hW : ab_W a) : ra_MOK l X mi_N_tiles (sp_N_tiles a) := by
  refine g_N_tiles (k_N_isAt hW) (k_N_behind hW) (sp_N_tiles a) ?_
  intro as σ Z _ _ h
  obtain ⟨x, y, rfl, hR, hZ⟩ := x_f2 h
  simp (disch := omega) only [b_N_tiles_21, b_N_tiles_19, b_N_tiles_9, b_N_tiles_0, e_al0, e_il1, e_il2, e_c, e_b1, e_ir, e_cv4, e_hd, e_cv3, e_c10, e_c1i, e_c1r, e_sh0, e_sh1, e_sh2, e_sh3, e_sh4, e_tls, e_tln, e_tl0, e_tl1, cl_82, q_N_isAt, q_N_behind, Nat.reduceAdd, true_and, and_true, true_implies, not_true_eq_false, false_implies, not_false_eq_true, imp_self, forall_const, List.append_nil, ra_I, ra_J, ra_pad, true_or, or_true, Nat.reduceEqDiff, ra_bz, eq_self, if_true, if_false, false_and, and_false, Nat.zero_le, List.cons_append, List.nil_append, Nat.reduceLT, Nat.reduceLeDiff, Nat.reduceMul, Nat.reduceSub, n_0, n_1, n_2, n_3, n_4, n_5, n_6, n_7, n_8, n_9, n_10, n_12, n_40, n_48, n_57, n_59, n_72, n_99, n_102, n_103, n_107, n_108, n_192, n_255, n_256, n_999, n_1000, n_104, nI_add, pk_mul, n_cl, n_in, n_le, n_lt, n_eq, n_m1, n_m1', n_lem1, n_m1le, n_ltm1, n_m1lt, n_lepred, n_shl, fa_or]
  refine ⟨hR, fun σ' g => ⟨fun q => ⟨hR.fr g (by decide), q.1, q.2, ⟨by decide, by decide⟩, fun σ'' g1 g2 => ?_⟩, fun q => ?_⟩⟩
  · have h9 := hZ σ'' (g.tr g2 (by decide))
    rw [an_b_yes q] at h9
    exact h9
  · have h9 := hZ σ' g
    rw [an_b_no q] at h9
    exact h9
def sp_N_purse (a : Ab) : ra_Sp := ra_f2 82 (fun x y σ Z => rn_R a σ ∧ ∀ σ', ra_fr rn_scr σ σ' → Z (some (.int (an_b a 1 x y))) σ')
theorem q_N_purse {a : Ab} {oo : Nat} {x y : Int32} {σ : ra_St} {Z : ra_R} : sp_N_purse a [.ref oo, .int x, .int y] σ Z = (oo = 82 ∧ (rn_R a σ ∧ ∀ σ', ra_fr rn_scr σ σ' → Z (some (.int (an_b a 1 x y))) σ')) := rfl
theorem k_N_purse {l : Launch} {X : ra_X} {a : Ab} (hW : ab_W a) : ra_MOK l X mi_N_purse (sp_N_purse a) := by
  refine g_N_purse (k_N_isAt hW) (k_N_behind hW) (sp_N_purse a) ?_
  intro as σ Z _ _ h
  obtain ⟨x, y, rfl, hR, hZ⟩ := x_f2 h
  simp (disch := omega) only [b_N_purse_21, b_N_purse_19, b_N_purse_9, b_N_purse_0, e_al0, e_il1, e_il2, e_c, e_b1, e_ir, e_cv4, e_hd, e_cv3, e_c10, e_c1i, e_c1r, e_sh0, e_sh1, e_sh2, e_sh3, e_sh4, e_tls, e_tln, e_tl0, e_tl1, cl_82, q_N_isAt, q_N_behind, Nat.reduceAdd, true_and, and_true, true_implies, not_true_eq_false, false_implies, not_false_eq_true, imp_self, forall_const, List.append_nil, ra_I, ra_J, ra_pad, true_or, or_true, Nat.reduceEqDiff, ra_bz, eq_self, if_true, if_false, false_and, and_false, Nat.zero_le, List.cons_append, List.nil_append, Nat.reduceLT, Nat.reduceLeDiff, Nat.reduceMul, Nat.reduceSub, n_0, n_1, n_2, n_3, n_4, n_5, n_6, n_7, n_8, n_9, n_10, n_12, n_40, n_48, n_57, n_59, n_72, n_99, n_102, n_103, n_107, n_108, n_192, n_255, n_256, n_999, n_1000, n_104, nI_add, pk_mul, n_cl, n_in, n_le, n_lt, n_eq, n_m1, n_m1', n_lem1, n_m1le, n_ltm1, n_m1lt, n_lepred, n_shl, fa_or]
  refine ⟨hR, fun σ' g => ⟨fun q => ⟨hR.fr g (by decide), q.1, q.2, ⟨by decide, by decide⟩, fun σ'' g1 g2 => ?_⟩, fun q => ?_⟩⟩
  · have h9 := hZ σ'' (g.tr g2 (by decide))
    rw [an_b_yes q] at h9
    exact h9
  · have h9 := hZ σ' g
    rw [an_b_no q] at h9
    exact h9
def sp_N_harm (a : Ab) : ra_Sp := ra_f2 82 (fun x y σ Z => rn_R a σ ∧ ∀ σ', ra_fr rn_scr σ σ' → Z (some (.int (an_b a 2 x y))) σ')
theorem q_N_harm {a : Ab} {oo : Nat} {x y : Int32} {σ : ra_St} {Z : ra_R} : sp_N_harm a [.ref oo, .int x, .int y] σ Z = (oo = 82 ∧ (rn_R a σ ∧ ∀ σ', ra_fr rn_scr σ σ' → Z (some (.int (an_b a 2 x y))) σ')) := rfl
theorem k_N_harm {l : Launch} {X : ra_X} {a : Ab} (hW : ab_W a) : ra_MOK l X mi_N_harm (sp_N_harm a) := by
  refine g_N_harm (k_N_isAt hW) (k_N_behind hW) (sp_N_harm a) ?_
  intro as σ Z _ _ h
  obtain ⟨x, y, rfl, hR, hZ⟩ := x_f2 h
  simp (disch := omega) only [b_N_harm_21, b_N_harm_19, b_N_harm_9, b_N_harm_0, e_al0, e_il1, e_il2, e_c, e_b1, e_ir, e_cv4, e_hd, e_cv3, e_c10, e_c1i, e_c1r, e_sh0, e_sh1, e_sh2, e_sh3, e_sh4, e_tls, e_tln, e_tl0, e_tl1, cl_82, q_N_isAt, q_N_behind, Nat.reduceAdd, true_and, and_true, true_implies, not_true_eq_false, false_implies, not_false_eq_true, imp_self, forall_const, List.append_nil, ra_I, ra_J, ra_pad, true_or, or_true, Nat.reduceEqDiff, ra_bz, eq_self, if_true, if_false, false_and, and_false, Nat.zero_le, List.cons_append, List.nil_append, Nat.reduceLT, Nat.reduceLeDiff, Nat.reduceMul, Nat.reduceSub, n_0, n_1, n_2, n_3, n_4, n_5, n_6, n_7, n_8, n_9, n_10, n_12, n_40, n_48, n_57, n_59, n_72, n_99, n_102, n_103, n_107, n_108, n_192, n_255, n_256, n_999, n_1000, n_104, nI_add, pk_mul, n_cl, n_in, n_le, n_lt, n_eq, n_m1, n_m1', n_lem1, n_m1le, n_ltm1, n_m1lt, n_lepred, n_shl, fa_or]
  refine ⟨hR, fun σ' g => ⟨fun q => ⟨hR.fr g (by decide), q.1, q.2, ⟨by decide, by decide⟩, fun σ'' g1 g2 => ?_⟩, fun q => ?_⟩⟩
  · have h9 := hZ σ'' (g.tr g2 (by decide))
    rw [an_b_yes q] at h9
    exact h9
  · have h9 := hZ σ' g
    rw [an_b_no q] at h9
    exact h9
def sp_N_laid (a : Ab) : ra_Sp := ra_f2 82 (fun x y σ Z => rn_R a σ ∧ ∀ σ', ra_fr rn_scr σ σ' → Z (some (.int (an_b a 3 x y))) σ')
theorem q_N_laid {a : Ab} {oo : Nat} {x y : Int32} {σ : ra_St} {Z : ra_R} : sp_N_laid a [.ref oo, .int x, .int y] σ Z = (oo = 82 ∧ (rn_R a σ ∧ ∀ σ', ra_fr rn_scr σ σ' → Z (some (.int (an_b a 3 x y))) σ')) := rfl
theorem k_N_laid {l : Launch} {X : ra_X} {a : Ab} (hW : ab_W a) : ra_MOK l X mi_N_laid (sp_N_laid a) := by
  refine g_N_laid (k_N_isAt hW) (k_N_behind hW) (sp_N_laid a) ?_
  intro as σ Z _ _ h
  obtain ⟨x, y, rfl, hR, hZ⟩ := x_f2 h
  simp (disch := omega) only [b_N_laid_21, b_N_laid_19, b_N_laid_9, b_N_laid_0, e_al0, e_il1, e_il2, e_c, e_b1, e_ir, e_cv4, e_hd, e_cv3, e_c10, e_c1i, e_c1r, e_sh0, e_sh1, e_sh2, e_sh3, e_sh4, e_tls, e_tln, e_tl0, e_tl1, cl_82, q_N_isAt, q_N_behind, Nat.reduceAdd, true_and, and_true, true_implies, not_true_eq_false, false_implies, not_false_eq_true, imp_self, forall_const, List.append_nil, ra_I, ra_J, ra_pad, true_or, or_true, Nat.reduceEqDiff, ra_bz, eq_self, if_true, if_false, false_and, and_false, Nat.zero_le, List.cons_append, List.nil_append, Nat.reduceLT, Nat.reduceLeDiff, Nat.reduceMul, Nat.reduceSub, n_0, n_1, n_2, n_3, n_4, n_5, n_6, n_7, n_8, n_9, n_10, n_12, n_40, n_48, n_57, n_59, n_72, n_99, n_102, n_103, n_107, n_108, n_192, n_255, n_256, n_999, n_1000, n_104, nI_add, pk_mul, n_cl, n_in, n_le, n_lt, n_eq, n_m1, n_m1', n_lem1, n_m1le, n_ltm1, n_m1lt, n_lepred, n_shl, fa_or]
  refine ⟨hR, fun σ' g => ⟨fun q => ⟨hR.fr g (by decide), q.1, q.2, ⟨by decide, by decide⟩, fun σ'' g1 g2 => ?_⟩, fun q => ?_⟩⟩
  · have h9 := hZ σ'' (g.tr g2 (by decide))
    rw [an_b_yes q] at h9
    exact h9
  · have h9 := hZ σ' g
    rw [an_b_no q] at h9
    exact h9
def sp_N_allOf (a : Ab) : ra_Sp := ra_f2 82 (fun y w σ Z => rn_R a σ ∧ an_in y (a 3 0) ∧ an_in w 3 ∧ ∀ σ', rn_P a σ' → ra_fr rn_scr σ σ' → Z (some (.int (nI (fb_sm (fun h => sm_g (sm a (ab_te a) y.toNatClampNeg) w.toNatClampNeg h) (ab_hc a))))) σ')
theorem q_N_allOf {a : Ab} {oo : Nat} {y w : Int32} {σ : ra_St} {Z : ra_R} : sp_N_allOf a [.ref oo, .int y, .int w] σ Z = (oo = 82 ∧ (rn_R a σ ∧ an_in y (a 3 0) ∧ an_in w 3 ∧ ∀ σ', rn_P a σ' → ra_fr rn_scr σ σ' → Z (some (.int (nI (fb_sm (fun h => sm_g (sm a (ab_te a) y.toNatClampNeg) w.toNatClampNeg h) (ab_hc a))))) σ')) := rfl
def I_N_allOf (a : Ab) (Z : ra_R) (as : List Value) (σ0 : ra_St) (t : Nat) (μ : ra_M) : ra_K := fun L S σ => S = [] ∧ ∃ h y w : Nat, as = [.ref 82, .int (nI y), .int (nI w)] ∧ y ≤ a 3 0 ∧ w ≤ 3 ∧ h ≤ ab_hc a ∧ rn_R a σ ∧ rn_P a σ ∧ ra_fr rn_scr σ0 σ ∧ μ = (ab_hc a - h, 0, 0) ∧ L = [.ref 82, .int (nI y), .int (nI w), .int (nI (fb_sm (fun h => sm_g (sm a (ab_te a) y) w h) h)), .int (nI h)]
theorem k_N_allOf {l : Launch} {X : ra_X} {a : Ab} (hW : ab_W a) : ra_MOK l X mi_N_allOf (sp_N_allOf a) := by
  have h8 := ab_hc_8 a
  have hr12 := hW.2.2.2.2.1
  refine g_N_allOf (k_N_reads hW) (k_N_behind hW) (sp_N_allOf a) (I_N_allOf a) ?_ ?_
  · intro as σ Z _ _ h
    obtain ⟨y, w, rfl, hR, hy, hw, hZ⟩ := x_f2 h
    obtain ⟨y, hy2, rfl⟩ := an_in_of hy (by omega)
    obtain ⟨w, hw2, rfl⟩ := an_in_of hw (by decide)
    simp only [b_N_allOf_35, b_N_allOf_18, b_N_allOf_9, b_N_allOf_0, e_il3, e_al0, e_il4, e_il1, e_il2, e_is3i, e_is3r, e_is3n, e_is4i, e_is4r, e_is4n, e_inc4i, e_inc4r, e_inc4n, e_c, e_i2, e_b2, e_gi, e_ir, e_cv4, e_hd, e_cv1, e_c10, e_c1i, e_c1r, e_sh0, e_sh1, e_sh2, e_sh3, e_sh4, e_tls, e_tln, e_tl0, e_tl1, cl_82, q_N_reads, q_N_behind, Nat.reduceAdd, true_and, and_true, true_implies, not_true_eq_false, false_implies, not_false_eq_true, imp_self, forall_const, List.append_nil, ra_I, ra_J, ra_pad, true_or, or_true, Nat.reduceEqDiff, ra_bz, eq_self, if_true, if_false, false_and, and_false, Nat.zero_le, List.cons_append, List.nil_append, Nat.reduceLT, Nat.reduceLeDiff, Nat.reduceMul, Nat.reduceSub]
    exact ⟨hR.1, fun σ1 hP hf => ⟨_, rfl, 0, y, w, rfl, hy2, hw2, by omega, hR.fr hf (by decide), hP, hf.mono (by decide), rfl, rfl⟩⟩
  · intro as σ0 Z h0 μ L S σ hI
    obtain ⟨rfl, h, y, w, rfl, hy, hw, hh, hR, hP, hf, rfl, rfl⟩ := hI
    obtain ⟨_, _, e, hR0, -, -, hZ⟩ := x_f2 h0
    cases e
    rw [n_cl (by omega), n_cl (by omega)] at hZ
    simp (disch := omega) only [b_N_allOf_35, b_N_allOf_18, b_N_allOf_9, b_N_allOf_0, e_il3, e_al0, e_il4, e_il1, e_il2, e_is3i, e_is3r, e_is3n, e_is4i, e_is4r, e_is4n, e_inc4i, e_inc4r, e_inc4n, e_c, e_i2, e_b2, e_gi, e_ir, e_cv4, e_hd, e_cv1, e_c10, e_c1i, e_c1r, e_sh0, e_sh1, e_sh2, e_sh3, e_sh4, e_tls, e_tln, e_tl0, e_tl1, cl_82, q_N_reads, q_N_behind, Nat.reduceAdd, true_and, and_true, true_implies, not_true_eq_false, false_implies, not_false_eq_true, imp_self, forall_const, List.append_nil, ra_I, ra_J, ra_pad, true_or, or_true, Nat.reduceEqDiff, ra_bz, eq_self, if_true, if_false, false_and, and_false, Nat.zero_le, List.cons_append, List.nil_append, Nat.reduceLT, Nat.reduceLeDiff, Nat.reduceMul, Nat.reduceSub, n_0, n_1, n_2, n_3, n_4, n_5, n_6, n_7, n_8, n_9, n_10, n_12, n_40, n_48, n_57, n_59, n_72, n_99, n_102, n_103, n_107, n_108, n_192, n_255, n_256, n_999, n_1000, n_104, nI_add, pk_mul, n_cl, n_inT, n_le, n_lt, n_eq, n_m1, n_m1', n_lem1, n_m1le, n_ltm1, n_m1lt, n_lepred, n_shl, fa_or, hP.1.1]
    refine ⟨fun q => ?_, fun q => ⟨hR, an_hs_nI (by omega), an_in_nI hy (by omega), an_in_nI hw (by decide), fun σ' g1 g2 => ?_⟩⟩
    · rw [show h = ab_hc a by omega]
      exact hZ σ hP hf
    · exact ⟨(ab_hc a - (h + 1), 0, 0), lx1 (by omega), rfl, h + 1, y, w, rfl, hy, hw, by omega, hR.fr g2 (by decide), g1, hf.tr g2 (by decide), rfl, rfl⟩
noncomputable def an_all (a : Ab) (y w : Int32) : Int32 := by
  classical
  exact if an_in y (a 3 0) ∧ an_in w 3 then nI (fb_sm (fun h => sm_g (sm a (ab_te a) y.toNatClampNeg) w.toNatClampNeg h) (ab_hc a)) else -2
theorem an_all_yes {a : Ab} {y w : Int32} (h : an_in y (a 3 0) ∧ an_in w 3) : an_all a y w = nI (fb_sm (fun h => sm_g (sm a (ab_te a) y.toNatClampNeg) w.toNatClampNeg h) (ab_hc a)) := by
  unfold an_all
  exact if_pos h
theorem an_all_no {a : Ab} {y w : Int32} (h : ¬ (an_in y (a 3 0) ∧ an_in w 3)) : an_all a y w = -2 := by
  unfold an_all
  exact if_neg h
def sp_N_all (a : Ab) : ra_Sp := ra_f2 82 (fun y w σ Z => rn_R a σ ∧ ∀ σ', ra_fr rn_scr σ σ' → Z (some (.int (an_all a y w))) σ')
theorem q_N_all {a : Ab} {oo : Nat} {y w : Int32} {σ : ra_St} {Z : ra_R} : sp_N_all a [.ref oo, .int y, .int w] σ Z = (oo = 82 ∧ (rn_R a σ ∧ ∀ σ', ra_fr rn_scr σ σ' → Z (some (.int (an_all a y w))) σ')) := rfl
theorem k_N_all {l : Launch} {X : ra_X} {a : Ab} (hW : ab_W a) : ra_MOK l X mi_N_all (sp_N_all a) := by
  refine g_N_all k_N_in (k_N_allOf hW) (sp_N_all a) ?_
  intro as σ Z _ _ h
  obtain ⟨y, w, rfl, hR, hZ⟩ := x_f2 h
  simp (disch := omega) only [b_N_all_32, b_N_all_30, b_N_all_21, b_N_all_12, b_N_all_0, e_al0, e_il1, e_il2, e_c, e_b1, e_gi, e_ir, e_cs3, e_cv3, e_hd, e_c10, e_c1i, e_c1r, e_sh0, e_sh1, e_sh2, e_sh3, e_sh4, e_tls, e_tln, e_tl0, e_tl1, cl_82, q_N_in, q_N_allOf, Nat.reduceAdd, true_and, and_true, true_implies, not_true_eq_false, false_implies, not_false_eq_true, imp_self, forall_const, List.append_nil, ra_I, ra_J, ra_pad, true_or, or_true, Nat.reduceEqDiff, ra_bz, eq_self, if_true, if_false, false_and, and_false, Nat.zero_le, List.cons_append, List.nil_append, Nat.reduceLT, Nat.reduceLeDiff, Nat.reduceMul, Nat.reduceSub, n_0, n_1, n_2, n_3, n_4, n_5, n_6, n_7, n_8, n_9, n_10, n_12, n_40, n_48, n_57, n_59, n_72, n_99, n_102, n_103, n_107, n_108, n_192, n_255, n_256, n_999, n_1000, n_104, nI_add, pk_mul, n_cl, n_in, n_le, n_lt, n_eq, n_m1, n_m1', n_lem1, n_m1le, n_ltm1, n_m1lt, n_lepred, n_shl, fa_or, hR.2.1]
  have no : ¬ (an_in y (a 3 0) ∧ an_in w 3) → Z (some (.int (-2))) σ := by
    intro q
    have h9 := hZ σ ra_fr.rf
    rw [an_all_no q] at h9
    exact h9
  refine ⟨fun q => ⟨fun q2 => ⟨hR, q, q2, fun σ' g1 g2 => ?_⟩, fun q2 => no (fun z => q2 z.2)⟩, fun q => no (fun z => q z.1)⟩
  have h9 := hZ σ' g2
  rw [an_all_yes ⟨q, q2⟩] at h9
  exact h9
/-! rings -/
noncomputable def ab_rg (a : Ab) : Nat → Nat → Nat → Nat
  | 0, b, _ => b
  | f + 1, b, x => if b.testBit x = true then b else ab_rg a f (b ||| 2 ^ x) (ab_ow a x)
noncomputable def ab_ring (a : Ab) (h : Nat) : Nat := ab_rg a (ab_hc a) 0 h
theorem ab_rg_lt {a : Ab} : ∀ f b x, x < ab_hc a → b < 256 → ab_rg a f b x < 256
  | 0, b, x, _, hb => hb
  | f + 1, b, x, hx, hb => by
    rw [ab_rg]
    split
    · exact hb
    · exact ab_rg_lt f _ _ (ab_ow_lt hx) (Nat.or_lt_two_pow (n := 8) hb (Nat.pow_lt_pow_right (by decide) (by have := ab_hc_8 a; omega)))
theorem ab_ring_lt {a : Ab} {h : Nat} (hh : h < ab_hc a) : ab_ring a h < 256 := ab_rg_lt _ _ _ hh (by decide)
theorem fb_ct_set {b x n : Nat} (hx : x < n) (h : b.testBit x = false) : fb_ct (fun i => (b ||| 2 ^ x).testBit i) n = fb_ct (fun i => b.testBit i) n + 1 := by
  have e : (fun i => (b ||| 2 ^ x).testBit i) = (fun k => if k = x then true else b.testBit k) := by
    funext i
    rw [n_tb_or]
    by_cases q : i = x
    · rw [if_pos q, decide_eq_true q, Bool.or_true]
    · rw [if_neg q, decide_eq_false q, Bool.or_false]
  have h1 := fb_ct_upd (fun i => b.testBit i) true hx
  rw [e]
  rw [h] at h1
  simpa using h1
def sp_N_ringOf (a : Ab) : ra_Sp := ra_f1 82 (fun x σ Z => rn_P a σ ∧ an_hs a x ∧ Z (some (.int (nI (ab_ring a x.toNatClampNeg)))) σ)
theorem q_N_ringOf {a : Ab} {oo : Nat} {x : Int32} {σ : ra_St} {Z : ra_R} : sp_N_ringOf a [.ref oo, .int x] σ Z = (oo = 82 ∧ (rn_P a σ ∧ an_hs a x ∧ Z (some (.int (nI (ab_ring a x.toNatClampNeg)))) σ)) := rfl
def I_N_ringOf (a : Ab) (Z : ra_R) (as : List Value) (σ0 : ra_St) (t : Nat) (μ : ra_M) : ra_K := fun L S σ => S = [] ∧ σ = σ0 ∧ ∃ n b x f : Nat, as = [.ref 82, .int (nI n)] ∧ n < ab_hc a ∧ x < ab_hc a ∧ b < 256 ∧ fb_ct (fun i => b.testBit i) (ab_hc a) + f = ab_hc a ∧ ab_ring a n = ab_rg a f b x ∧ μ = (f, 0, 0) ∧ L = [.ref 82, .int (nI n), .int (nI b), .int (nI x)]
theorem k_N_ringOf {l : Launch} {X : ra_X} {a : Ab} : ra_MOK l X mi_N_ringOf (sp_N_ringOf a) := by
  have h8 := ab_hc_8 a
  refine g_N_ringOf k_N_isIn (sp_N_ringOf a) (I_N_ringOf a) ?_ ?_
  · intro as σ Z _ _ h
    obtain ⟨x, rfl, hP, hx, hZ⟩ := x_f1 h
    obtain ⟨n, hn, rfl⟩ := an_hs_of hx
    simp only [b_N_ringOf_28, b_N_ringOf_12, b_N_ringOf_4, b_N_ringOf_0, e_il2, e_il3, e_al0, e_il1, e_is2i, e_is2r, e_is2n, e_is3i, e_is3r, e_is3n, e_c, e_i2, e_b1, e_gr, e_ald, e_ir, e_cs2, e_c10, e_c1i, e_c1r, e_sh0, e_sh1, e_sh2, e_sh3, e_sh4, e_tls, e_tln, e_tl0, e_tl1, cl_82, cl_88, ln_88, tg_82_6, q_N_isIn, Nat.reduceAdd, true_and, and_true, true_implies, not_true_eq_false, false_implies, not_false_eq_true, imp_self, forall_const, List.append_nil, ra_I, ra_J, ra_pad, true_or, or_true, Nat.reduceEqDiff, ra_bz, eq_self, if_true, if_false, false_and, and_false, Nat.zero_le, List.cons_append, List.nil_append, Nat.reduceLT, Nat.reduceLeDiff, Nat.reduceMul, Nat.reduceSub]
    refine ⟨_, rfl, rfl, n, 0, n, ab_hc a, rfl, hn, hn, by decide, ?_, rfl, rfl, rfl⟩
    rw [fb_ct_zero.mpr (fun k _ => Nat.zero_testBit k), Nat.zero_add]
  · intro as σ0 Z h0 μ L S σ hI
    obtain ⟨rfl, rfl, n, b, x, f, rfl, hn, hx, hb, hf, hr, rfl, rfl⟩ := hI
    obtain ⟨_, e, hP, -, hZ⟩ := x_f1 h0
    cases e
    rw [n_cl (by omega), hr] at hZ
    have how := ab_ow_lt hx
    simp (disch := omega) only [b_N_ringOf_28, b_N_ringOf_12, b_N_ringOf_4, b_N_ringOf_0, e_il2, e_il3, e_al0, e_il1, e_is2i, e_is2r, e_is2n, e_is3i, e_is3r, e_is3n, e_c, e_i2, e_b1, e_gr, e_ald, e_ir, e_cs2, e_c10, e_c1i, e_c1r, e_sh0, e_sh1, e_sh2, e_sh3, e_sh4, e_tls, e_tln, e_tl0, e_tl1, cl_82, cl_88, ln_88, tg_82_6, q_N_isIn, Nat.reduceAdd, true_and, and_true, true_implies, not_true_eq_false, false_implies, not_false_eq_true, imp_self, forall_const, List.append_nil, ra_I, ra_J, ra_pad, true_or, or_true, Nat.reduceEqDiff, ra_bz, eq_self, if_true, if_false, false_and, and_false, Nat.zero_le, List.cons_append, List.nil_append, Nat.reduceLT, Nat.reduceLeDiff, Nat.reduceMul, Nat.reduceSub, n_0, n_1, n_2, n_3, n_4, n_5, n_6, n_7, n_8, n_9, n_10, n_12, n_40, n_48, n_57, n_59, n_72, n_99, n_102, n_103, n_107, n_108, n_192, n_255, n_256, n_999, n_1000, n_104, nI_add, pk_mul, n_cl, n_inT, n_le, n_lt, n_eq, n_m1, n_m1', n_lem1, n_m1le, n_ltm1, n_m1lt, n_lepred, n_shl, fa_or, hP.2 x hx]
    refine ⟨fun q => ?_, fun q => ?_⟩
    · cases f with
      | zero => exact hZ
      | succ f =>
        rw [ab_rg, if_pos q] at hZ
        exact hZ
    · cases f with
      | zero =>
        exact absurd (fb_ct_all.mp (by omega : fb_ct (fun i => b.testBit i) (ab_hc a) = ab_hc a) x hx) q
      | succ f =>
        rw [ab_rg, if_neg q] at hr
        refine ⟨(f, 0, 0), lx1 (by omega), rfl, rfl, n, b ||| 2 ^ x, ab_ow a x, f, rfl, hn, how, Nat.or_lt_two_pow (n := 8) hb (Nat.pow_lt_pow_right (by decide) (by omega)), ?_, hr, rfl, rfl⟩
        rw [fb_ct_set hx (ts_nt' q)]
        omega
noncomputable def an_ring (a : Ab) (x w : Int32) : Int32 := by
  classical
  exact if an_hs a x ∧ an_in w 1 then (if w = 0 then nI (ab_ring a x.toNatClampNeg) else nI (n_pop (ab_ring a x.toNatClampNeg))) else -2
theorem an_ring_yes {a : Ab} {x w : Int32} (h : an_hs a x ∧ an_in w 1) : an_ring a x w = if w = 0 then nI (ab_ring a x.toNatClampNeg) else nI (n_pop (ab_ring a x.toNatClampNeg)) := by
  unfold an_ring
  rw [if_pos h]
theorem an_ring_no {a : Ab} {x w : Int32} (h : ¬ (an_hs a x ∧ an_in w 1)) : an_ring a x w = -2 := by
  unfold an_ring
  exact if_neg h
def sp_N_ring (a : Ab) : ra_Sp := ra_f2 82 (fun x w σ Z => rn_R a σ ∧ ∀ σ', ra_fr rn_scr σ σ' → Z (some (.int (an_ring a x w))) σ')
theorem q_N_ring {a : Ab} {oo : Nat} {x w : Int32} {σ : ra_St} {Z : ra_R} : sp_N_ring a [.ref oo, .int x, .int w] σ Z = (oo = 82 ∧ (rn_R a σ ∧ ∀ σ', ra_fr rn_scr σ σ' → Z (some (.int (an_ring a x w))) σ')) := rfl
theorem k_N_ring {l : Launch} {X : ra_X} {a : Ab} (hW : ab_W a) : ra_MOK l X mi_N_ring (sp_N_ring a) := by
  have h8 := ab_hc_8 a
  refine g_N_ring (k_N_isHouse hW) k_N_in (k_N_ringOf (a := a)) k_N_ones (sp_N_ring a) ?_
  intro as σ Z _ _ h
  obtain ⟨x, w, rfl, hR, hZ⟩ := x_f2 h
  simp (disch := omega) only [b_N_ring_42, b_N_ring_40, b_N_ring_29, b_N_ring_21, b_N_ring_17, b_N_ring_8, b_N_ring_0, e_al0, e_il1, e_il2, e_c, e_b1, e_ir, e_cs1, e_cs3, e_cv2, e_hd, e_c10, e_c1i, e_c1r, e_sh0, e_sh1, e_sh2, e_sh3, e_sh4, e_tls, e_tln, e_tl0, e_tl1, cl_82, q_N_isHouse, q_N_in, q_N_ringOf, q_N_ones, Nat.reduceAdd, true_and, and_true, true_implies, not_true_eq_false, false_implies, not_false_eq_true, imp_self, forall_const, List.append_nil, ra_I, ra_J, ra_pad, true_or, or_true, Nat.reduceEqDiff, ra_bz, eq_self, if_true, if_false, false_and, and_false, Nat.zero_le, List.cons_append, List.nil_append, Nat.reduceLT, Nat.reduceLeDiff, Nat.reduceMul, Nat.reduceSub, n_0, n_1, n_2, n_3, n_4, n_5, n_6, n_7, n_8, n_9, n_10, n_12, n_40, n_48, n_57, n_59, n_72, n_99, n_102, n_103, n_107, n_108, n_192, n_255, n_256, n_999, n_1000, n_104, nI_add, pk_mul, n_cl, n_in, n_le, n_lt, n_eq, n_m1, n_m1', n_lem1, n_m1le, n_ltm1, n_m1lt, n_lepred, n_shl, fa_or]
  refine ⟨hR.1, fun σ' g1 g2 => ?_⟩
  have hZ := hZ σ' (g2.mono (by decide))
  refine ⟨fun q => ⟨fun q2 => ?_, fun q2 => ?_⟩, fun q => ?_⟩
  · rw [an_ring_yes ⟨q, q2⟩] at hZ
    obtain ⟨n, hn, rfl⟩ := an_hs_of q
    have hlt := ab_ring_lt hn
    rw [n_cl (by omega)] at hZ
    refine ⟨fun q3 => ⟨g1, an_hs_nI hn, ?_⟩, fun q3 => ⟨g1, an_hs_nI hn, ?_, ?_⟩⟩
    · rw [if_pos (show w = 0 from q3)] at hZ
      rw [n_cl (by omega)]
      exact hZ
    · rw [n_cl (show n < 2147483648 by omega)]
      exact vi hlt (by decide)
    · rw [if_neg (show ¬ w = 0 from q3)] at hZ
      rw [n_cl (show n < 2147483648 by omega), n_cl (show ab_ring a n < 2147483648 by omega)]
      exact hZ
  · rw [an_ring_no (fun z => q2 z.2)] at hZ
    exact hZ
  · rw [an_ring_no (fun z => q z.1)] at hZ
    exact hZ
