/-! the class: what is told -/
theorem ra_MOK_ex {ι : Type} {l : Launch} {X : ra_X} {mi : ra_MI} {P : ι → Prop} {sp : ι → ra_Sp} (h : ∀ i, P i → ra_MOK l X mi (sp i)) : ra_MOK l X mi (fun as σ Z => ∃ i, P i ∧ sp i as σ Z) :=
  fun as σ R h1 h2 ⟨i, hp, hs⟩ => h i hp as σ R h1 h2 hs
def sp_R_isNoHouse (a : Ab) : ra_Sp := ra_f1 0 (fun x σ Z => rc_V a σ ∧ ra_bz (¬ an_hs a x) Z σ)
theorem q_R_isNoHouse {a : Ab} {oo : Nat} {x : Int32} {σ : ra_St} {Z : ra_R} : sp_R_isNoHouse a [.ref oo, .int x] σ Z = (oo = 0 ∧ (rc_V a σ ∧ ra_bz (¬ an_hs a x) Z σ)) := rfl
theorem k_R_isNoHouse {l : Launch} {X : ra_X} {a : Ab} : ra_MOK l X mi_R_isNoHouse (sp_R_isNoHouse a) := by
  refine g_R_isNoHouse k_R_isOutside (sp_R_isNoHouse a) ?_
  intro as σ Z _ _ h
  obtain ⟨x, rfl, hV, hZ⟩ := x_f1 h
  simp (disch := omega) only [b_R_isNoHouse_0, e_il1, e_al0, e_c, e_i2, e_gi, e_gr, e_zr, e_cs3, e_c10, e_c1i, e_c1r, e_sh0, e_sh1, e_sh2, e_sh3, e_sh4, e_tls, e_tln, e_tl0, e_tl1, cl_0, cl_1, tg_0_0, q_R_isOutside, Nat.reduceAdd, true_and, and_true, true_implies, not_true_eq_false, false_implies, not_false_eq_true, imp_self, forall_const, List.append_nil, ra_I, ra_J, ra_pad, true_or, or_true, Nat.reduceEqDiff, ra_bz, eq_self, if_true, if_false, false_and, and_false, Nat.zero_le, List.cons_append, List.nil_append, Nat.reduceLT, Nat.reduceLeDiff, Nat.reduceMul, Nat.reduceSub, n_0, n_1, n_2, n_3, n_4, n_5, n_6, n_7, n_8, n_9, n_10, n_12, n_40, n_48, n_57, n_59, n_72, n_99, n_102, n_103, n_107, n_108, n_192, n_255, n_256, n_999, n_1000, n_104, nI_add, pk_mul, n_cl, n_inT, n_le, n_lt, n_eq, n_m1, n_m1', n_lem1, n_m1le, n_ltm1, n_m1lt, n_lepred, n_shl, fa_or, hV.2.1.1]
  exact hZ
def sp_R_fault (a : Ab) (b : Bb) (n : Nat) : ra_Sp := ra_f1 0 (fun x σ Z => rc_I a b n σ ∧ Z (some (.int (an_fault a x))) σ)
theorem q_R_fault {a : Ab} {b : Bb} {n : Nat} {oo : Nat} {x : Int32} {σ : ra_St} {Z : ra_R} : sp_R_fault a b n [.ref oo, .int x] σ Z = (oo = 0 ∧ (rc_I a b n σ ∧ Z (some (.int (an_fault a x))) σ)) := rfl
theorem k_R_fault {l : Launch} {X : ra_X} {a : Ab} {b : Bb} {n : Nat} : ra_MOK l X mi_R_fault (sp_R_fault a b n) := by
  refine g_R_fault k_R_isOutside (sp_R_fault a b n) ?_
  intro as σ Z _ _ h
  obtain ⟨x, rfl, hI, hZ⟩ := x_f1 h
  simp (disch := omega) only [b_R_fault_33, b_R_fault_26, b_R_fault_16, b_R_fault_12, b_R_fault_9, b_R_fault_0, e_al0, e_il1, e_c, e_b1, e_gi, e_gr, e_ir, e_cs3, e_c10, e_c1i, e_c1r, e_sh0, e_sh1, e_sh2, e_sh3, e_sh4, e_tls, e_tln, e_tl0, e_tl1, cl_0, cl_1, tg_0_0, q_R_isOutside, Nat.reduceAdd, true_and, and_true, true_implies, not_true_eq_false, false_implies, not_false_eq_true, imp_self, forall_const, List.append_nil, ra_I, ra_J, ra_pad, true_or, or_true, Nat.reduceEqDiff, ra_bz, eq_self, if_true, if_false, false_and, and_false, Nat.zero_le, List.cons_append, List.nil_append, Nat.reduceLT, Nat.reduceLeDiff, Nat.reduceMul, Nat.reduceSub, n_0, n_1, n_2, n_3, n_4, n_5, n_6, n_7, n_8, n_9, n_10, n_12, n_40, n_48, n_57, n_59, n_72, n_99, n_102, n_103, n_107, n_108, n_192, n_255, n_256, n_999, n_1000, n_104, nI_add, pk_mul, n_cl, n_inT, n_le, n_lt, n_eq, n_m1, n_m1', n_lem1, n_m1le, n_ltm1, n_m1lt, n_lepred, n_shl, fa_or, hI.1.2.2.1, hI.1.2.2.2.1]
  by_cases hx : an_in x 1
  · rw [an_fault_yes hx] at hZ
    refine ⟨fun q => absurd hx q, fun _ => ⟨fun q => ?_, fun q => ?_⟩⟩
    · rw [if_pos (show x = 0 from q)] at hZ
      exact hZ
    · rw [if_neg (show ¬ x = 0 from q)] at hZ
      exact hZ
  · rw [an_fault_no hx] at hZ
    exact ⟨fun _ => hZ, fun q => absurd hx q⟩
def sp_R_house (a : Ab) (b : Bb) (n : Nat) : ra_Sp := ra_f2 0 (fun x w σ Z => rc_I a b n σ ∧ Z (some (.int (an_house a x w))) σ)
theorem q_R_house {a : Ab} {b : Bb} {n : Nat} {oo : Nat} {x w : Int32} {σ : ra_St} {Z : ra_R} : sp_R_house a b n [.ref oo, .int x, .int w] σ Z = (oo = 0 ∧ (rc_I a b n σ ∧ Z (some (.int (an_house a x w))) σ)) := rfl
theorem k_R_house {l : Launch} {X : ra_X} {a : Ab} {b : Bb} {n : Nat} : ra_MOK l X mi_R_house (sp_R_house a b n) := by
  have h8 := ab_hc_8 a
  refine g_R_house (k_R_isNoHouse (a := a)) (sp_R_house a b n) ?_
  intro as σ Z _ _ h
  obtain ⟨x, w, rfl, hI, hZ⟩ := x_f2 h
  by_cases hx : an_hs a x
  · obtain ⟨x, hx2, rfl⟩ := an_hs_of hx
    obtain ⟨e1, e2, e3⟩ := hI.1.2.1.2 x hx2
    obtain ⟨e4, e5, -⟩ := hI.1.2.2.2.2 x hx2
    simp (disch := omega) only [b_R_house_98, b_R_house_88, b_R_house_78, b_R_house_68, b_R_house_58, b_R_house_48, b_R_house_11, b_R_house_8, b_R_house_0, e_al0, e_il1, e_il2, e_c, e_b1, e_gr, e_ald, e_ir, e_sw, e_go0, e_go1, List.map_cons, List.map_nil, e_cv2, e_hd, e_c10, e_c1i, e_c1r, e_sh0, e_sh1, e_sh2, e_sh3, e_sh4, e_tls, e_tln, e_tl0, e_tl1, cl_0, cl_1, cl_6, ln_6, cl_7, ln_7, cl_8, ln_8, cl_9, ln_9, cl_10, ln_10, tg_0_0, tg_1_2, tg_1_3, tg_1_4, tg_1_5, tg_1_6, q_R_isNoHouse, Nat.reduceAdd, true_and, and_true, true_implies, not_true_eq_false, false_implies, not_false_eq_true, imp_self, forall_const, List.append_nil, ra_I, ra_J, ra_pad, true_or, or_true, Nat.reduceEqDiff, ra_bz, eq_self, if_true, if_false, false_and, and_false, Nat.zero_le, List.cons_append, List.nil_append, Nat.reduceLT, Nat.reduceLeDiff, Nat.reduceMul, Nat.reduceSub, n_0, n_1, n_2, n_3, n_4, n_5, n_6, n_7, n_8, n_9, n_10, n_12, n_40, n_48, n_57, n_59, n_72, n_99, n_102, n_103, n_107, n_108, n_192, n_255, n_256, n_999, n_1000, n_104, nI_add, pk_mul, n_cl, n_inT, n_le, n_lt, n_eq, n_m1, n_m1', n_lem1, n_m1le, n_ltm1, n_m1lt, n_lepred, n_shl, fa_or, e1, e2, e3, e4, e5]
    refine ⟨hI.1, fun q => absurd hx q, fun _ => ?_⟩
    by_cases hw : an_in w 4
    · obtain ⟨w, hw2, rfl⟩ := an_in_of hw (by decide)
      rw [an_house_yes ⟨hx, hw⟩, n_cl (by omega), n_cl (by omega)] at hZ
      unfold an_hw at hZ
      simp (disch := omega) only [n_eq]
      refine ⟨fun q => ?_, fun q => ⟨fun q2 => ?_, fun q2 => ⟨fun q3 => ?_, fun q3 => ⟨fun q4 => ?_, fun q4 => ⟨fun q5 => ?_, fun q5 => by omega⟩⟩⟩⟩⟩
      · rw [if_pos q] at hZ; exact hZ
      · rw [if_neg q, if_pos q2] at hZ; exact hZ
      · rw [if_neg q, if_neg q2, if_pos q3] at hZ; exact hZ
      · rw [if_neg q, if_neg q2, if_neg q3, if_pos q4] at hZ; exact hZ
      · rw [if_neg q, if_neg q2, if_neg q3, if_neg q4] at hZ; exact hZ
    · rw [an_house_no (fun z => hw z.2)] at hZ
      have no : ∀ k : Nat, k ≤ 4 → ¬ w = nI k := fun k hk e => hw (e ▸ an_in_nI hk (by decide))
      exact ⟨fun q => absurd q (no 0 (by decide)), fun _ => ⟨fun q => absurd q (no 1 (by decide)), fun _ => ⟨fun q => absurd q (no 2 (by decide)), fun _ => ⟨fun q => absurd q (no 3 (by decide)), fun _ => ⟨fun q => absurd q (no 4 (by decide)), fun _ => hZ⟩⟩⟩⟩⟩
  · rw [an_house_no (fun z => hx z.1)] at hZ
    simp (disch := omega) only [b_R_house_98, b_R_house_88, b_R_house_78, b_R_house_68, b_R_house_58, b_R_house_48, b_R_house_8, b_R_house_0, e_al0, e_il1, e_il2, e_c, e_b1, e_gr, e_ald, e_ir, e_sw, e_go0, e_go1, List.map_cons, List.map_nil, e_cv2, e_hd, e_c10, e_c1i, e_c1r, e_sh0, e_sh1, e_sh2, e_sh3, e_sh4, e_tls, e_tln, e_tl0, e_tl1, cl_0, cl_1, cl_6, ln_6, cl_7, ln_7, cl_8, ln_8, cl_9, ln_9, cl_10, ln_10, tg_0_0, tg_1_2, tg_1_3, tg_1_4, tg_1_5, tg_1_6, q_R_isNoHouse, Nat.reduceAdd, true_and, and_true, true_implies, not_true_eq_false, false_implies, not_false_eq_true, imp_self, forall_const, List.append_nil, ra_I, ra_J, ra_pad, true_or, or_true, Nat.reduceEqDiff, ra_bz, eq_self, if_true, if_false, false_and, and_false, Nat.zero_le, List.cons_append, List.nil_append, Nat.reduceLT, Nat.reduceLeDiff, Nat.reduceMul, Nat.reduceSub, n_0, n_1, n_2, n_3, n_4, n_5, n_6, n_7, n_8, n_9, n_10, n_12, n_40, n_48, n_57, n_59, n_72, n_99, n_102, n_103, n_107, n_108, n_192, n_255, n_256, n_999, n_1000, n_104, nI_add, pk_mul, n_cl, n_inT, n_le, n_lt, n_eq, n_m1, n_m1', n_lem1, n_m1le, n_ltm1, n_m1lt, n_lepred, n_shl, fa_or]
    exact ⟨hI.1, fun _ => hZ, fun q => absurd hx q⟩
theorem ab_type_W {a : Ab} (hW : ab_W a) (t x : Int32) : ab_W (ab_type a t x).1 := by
  by_cases hy : an_in t 1 ∧ an_in x 255
  · obtain ⟨t, ht, rfl⟩ := an_in_of hy.1 (by decide)
    obtain ⟨x, hx, rfl⟩ := an_in_of hy.2 (by decide)
    by_cases hf : a 0 t = tx_most t
    · rw [ab_type_full ht hx hf]
      exact hW
    · rw [ab_type_yes ht hx hf]
      obtain ⟨h1, h2, h3, h4, h5⟩ := hW
      unfold tx_most at hf
      rcases (show t = 0 ∨ t = 1 by omega) with rfl | rfl
      · rw [if_pos rfl] at hf
        refine ⟨by simp [ab_u]; omega, by simpa [ab_u] using h2, fun i => ?_, by simpa [ab_u] using h4, by simpa [ab_u] using h5⟩
        simp [ab_u]
        split
        · omega
        · exact h3 i
      · rw [if_neg (by decide)] at hf
        refine ⟨by simpa [ab_u] using h1, by simp [ab_u]; omega, by simpa [ab_u] using h3, fun i => ?_, by simpa [ab_u] using h5⟩
        simp [ab_u]
        split
        · omega
        · exact h4 i
  · rw [ab_type_no hy]
    exact hW
theorem ab_wipe_W {a : Ab} (hW : ab_W a) (t : Int32) : ab_W (ab_wipe a t).1 := by
  by_cases hy : an_in t 1
  · obtain ⟨t, ht, rfl⟩ := an_in_of hy (by decide)
    rw [ab_wipe_yes ht]
    obtain ⟨h1, h2, h5⟩ := hW
    rcases (show t = 0 ∨ t = 1 by omega) with rfl | rfl
    · exact ⟨by simp [ab_u], by simpa [ab_u] using h2, by simpa [ab_u] using h5⟩
    · exact ⟨by simpa [ab_u] using h1, by simp [ab_u], by simpa [ab_u] using h5⟩
  · rw [ab_wipe_no hy]
    exact hW
/-- what a call on a text asks for -/
def vt_o (t : Nat) : Nat := 2 + 2 * t
def sp_V_append (a : Ab) : ra_Sp := fun as σ Z => match as with
  | [.ref o, .ref p, .int x] => o = 1 ∧ an_in x 255 ∧ rc_T a σ ∧ ∃ t : Nat, t ≤ 1 ∧ p = vt_o t ∧ (a 0 t = tx_most t → Z (some (.int (-4))) σ) ∧ (a 0 t ≠ tx_most t → ∀ σ', rc_V (ab_type a (nI t) x).1 σ' → ra_fs [1, 2, 3, 4, 5, 6, 7, 8, 9, 10, 11] [] σ σ' → σ' 1 11 = σ 1 11 + 1 → Z (some (.int (nI (a 0 t + 1)))) σ')
  | _ => False
theorem q_V_append {a : Ab} {o p : Nat} {x : Int32} {σ : ra_St} {Z : ra_R} : sp_V_append a [.ref o, .ref p, .int x] σ Z = (o = 1 ∧ an_in x 255 ∧ rc_T a σ ∧ ∃ t : Nat, t ≤ 1 ∧ p = vt_o t ∧ (a 0 t = tx_most t → Z (some (.int (-4))) σ) ∧ (a 0 t ≠ tx_most t → ∀ σ', rc_V (ab_type a (nI t) x).1 σ' → ra_fs [1, 2, 3, 4, 5, 6, 7, 8, 9, 10, 11] [] σ σ' → σ' 1 11 = σ 1 11 + 1 → Z (some (.int (nI (a 0 t + 1)))) σ')) := rfl
theorem k_V_append {l : Launch} {X : ra_X} {a : Ab} (hW : ab_W a) (kT : ∀ a, ab_W a → ra_MOK l X mi_V_temperAt (sp_V_temperAt a)) : ra_MOK l X mi_V_append (sp_V_append a) := by
  refine g_V_append (c0 := fun as σ Z => ∃ a, ab_W a ∧ sp_V_readTexts a as σ Z) (ra_MOK_ex (fun a ha => k_V_readTexts ha (kT a ha))) (sp_V_append a) ?_
  intro as σ Z _ _ h
  unfold sp_V_append at h
  split at h
  · obtain ⟨rfl, hx, hT, t, ht, rfl, h1, h2⟩ := h
    obtain ⟨x, hx2, rfl⟩ := an_in_of hx (by decide)
    have w1 := hW.1
    have w2 := hW.2.1
    rcases (show t = 0 ∨ t = 1 by omega) with rfl | rfl
    · show b_V_append_0 _ Z (ra_pad 3 [.ref 1, .ref 2, .int (nI x)]) [] σ
      have e : tx_most 0 = 40 := rfl
      rw [e] at h1 h2
      simp (disch := omega) only [b_V_append_14, b_V_append_11, b_V_append_0, e_al1, e_il2, e_al0, e_c, e_i2, e_b2, e_gi, e_gr, e_pi, e_ast, e_ir, e_dupi, e_dupr, e_cv1, e_hd, e_c10, e_c1i, e_c1r, e_sh0, e_sh1, e_sh2, e_sh3, e_sh4, e_tls, e_tln, e_tl0, e_tl1, cl_1, cl_2, cl_3, ln_3, cl_4, cl_5, ln_5, tg_2_0, tg_4_0, q_V_readTexts, Nat.reduceAdd, true_and, and_true, true_implies, not_true_eq_false, false_implies, not_false_eq_true, imp_self, forall_const, List.append_nil, ra_I, ra_J, ra_pad, true_or, or_true, Nat.reduceEqDiff, ra_bz, eq_self, if_true, if_false, false_and, and_false, Nat.zero_le, List.cons_append, List.nil_append, Nat.reduceLT, Nat.reduceLeDiff, Nat.reduceMul, Nat.reduceSub, n_0, n_1, n_2, n_3, n_4, n_5, n_6, n_7, n_8, n_9, n_10, n_12, n_40, n_48, n_57, n_59, n_72, n_99, n_102, n_103, n_107, n_108, n_192, n_255, n_256, n_999, n_1000, n_104, nI_add, pk_mul, n_cl, n_inT, n_le, n_lt, n_eq, n_m1, n_m1', n_lem1, n_m1le, n_ltm1, n_m1lt, n_lepred, n_shl, fa_or, hT.1, hT.2.2.1, sw_at]
      refine ⟨fun q => ⟨vi (by omega) (by decide), (ab_type a (nI 0) (nI x)).1, ab_type_W hW _ _, ?_, fun σ' g1 g2 g3 => ?_⟩, fun q => h1 (by omega)⟩
      · rw [ab_type_yes (by decide) hx2 (by rw [e]; omega)]
        obtain ⟨k1, k2, k3, k4, k5, k6⟩ := hT
        refine ⟨by simpa [sw_at] using k1, by simpa [sw_at] using k2, by simp [sw_at, ab_u], by simp [sw_at, ab_u, k4], fun i hi => ?_, fun i hi => ?_⟩
        · simp [ab_u] at hi
          by_cases z : i = a 0 0
          · subst z; simp [sw_at, ab_u]
          · simpa [sw_at, ab_u, z] using k5 i (by omega)
        · simp [ab_u] at hi
          simpa [sw_at, ab_u] using k6 i hi
      · have g4 := g1.1.2.2.1
        rw [ab_type_yes (by decide) hx2 (by rw [e]; omega)] at g4
        rw [g4]
        simp only [ab_u]
        refine h2 (by omega) σ' g1 ?_ g3
        exact (((ra_fs.rf (cs := [1, 2, 3, 4, 5, 6, 7, 8, 9, 10, 11]) (ss := [])).sw (Or.inl (by decide))).sw (Or.inl (by decide))).tr g2.fs (by decide) (by decide)
    · show b_V_append_0 _ Z (ra_pad 3 [.ref 1, .ref 4, .int (nI x)]) [] σ
      have e : tx_most 1 = 10 := rfl
      rw [e] at h1 h2
      simp (disch := omega) only [b_V_append_14, b_V_append_11, b_V_append_0, e_al1, e_il2, e_al0, e_c, e_i2, e_b2, e_gi, e_gr, e_pi, e_ast, e_ir, e_dupi, e_dupr, e_cv1, e_hd, e_c10, e_c1i, e_c1r, e_sh0, e_sh1, e_sh2, e_sh3, e_sh4, e_tls, e_tln, e_tl0, e_tl1, cl_1, cl_2, cl_3, ln_3, cl_4, cl_5, ln_5, tg_2_0, tg_4_0, q_V_readTexts, Nat.reduceAdd, true_and, and_true, true_implies, not_true_eq_false, false_implies, not_false_eq_true, imp_self, forall_const, List.append_nil, ra_I, ra_J, ra_pad, true_or, or_true, Nat.reduceEqDiff, ra_bz, eq_self, if_true, if_false, false_and, and_false, Nat.zero_le, List.cons_append, List.nil_append, Nat.reduceLT, Nat.reduceLeDiff, Nat.reduceMul, Nat.reduceSub, n_0, n_1, n_2, n_3, n_4, n_5, n_6, n_7, n_8, n_9, n_10, n_12, n_40, n_48, n_57, n_59, n_72, n_99, n_102, n_103, n_107, n_108, n_192, n_255, n_256, n_999, n_1000, n_104, nI_add, pk_mul, n_cl, n_inT, n_le, n_lt, n_eq, n_m1, n_m1', n_lem1, n_m1le, n_ltm1, n_m1lt, n_lepred, n_shl, fa_or, hT.2.1, hT.2.2.2.1, sw_at]
      refine ⟨fun q => ⟨(ab_type a (nI 1) (nI x)).1, ab_type_W hW _ _, ?_, fun σ' g1 g2 g3 => ?_⟩, fun q => h1 (by omega)⟩
      · rw [ab_type_yes (by decide) hx2 (by rw [e]; omega)]
        obtain ⟨k1, k2, k3, k4, k5, k6⟩ := hT
        refine ⟨by simpa [sw_at] using k1, by simpa [sw_at] using k2, by simp [sw_at, ab_u, k3], by simp [sw_at, ab_u], fun i hi => ?_, fun i hi => ?_⟩
        · simp [ab_u] at hi
          simpa [sw_at, ab_u] using k5 i hi
        · simp [ab_u] at hi
          by_cases z : i = a 0 1
          · subst z; simp [sw_at, ab_u]
          · simpa [sw_at, ab_u, z] using k6 i (by omega)
      · have g4 := g1.1.2.2.2.1
        rw [ab_type_yes (by decide) hx2 (by rw [e]; omega)] at g4
        rw [g4]
        simp only [ab_u]
        refine h2 (by omega) σ' g1 ?_ g3
        exact (((ra_fs.rf (cs := [1, 2, 3, 4, 5, 6, 7, 8, 9, 10, 11]) (ss := [])).sw (Or.inl (by decide))).sw (Or.inl (by decide))).tr g2.fs (by decide) (by decide)
  · exact h.elim
def sp_V_clear (a : Ab) : ra_Sp := fun as σ Z => match as with
  | [.ref o, .ref p] => o = 1 ∧ rc_T a σ ∧ ∃ t : Nat, t ≤ 1 ∧ p = vt_o t ∧ ∀ σ', rc_V (ab_wipe a (nI t)).1 σ' → ra_fs [1, 2, 3, 4, 5, 6, 7, 8, 9, 10, 11] [] σ σ' → σ' 1 11 = σ 1 11 + 1 → Z (some (.int (nI (a 0 t)))) σ'
  | _ => False
theorem q_V_clear {a : Ab} {o p : Nat} {σ : ra_St} {Z : ra_R} : sp_V_clear a [.ref o, .ref p] σ Z = (o = 1 ∧ rc_T a σ ∧ ∃ t : Nat, t ≤ 1 ∧ p = vt_o t ∧ ∀ σ', rc_V (ab_wipe a (nI t)).1 σ' → ra_fs [1, 2, 3, 4, 5, 6, 7, 8, 9, 10, 11] [] σ σ' → σ' 1 11 = σ 1 11 + 1 → Z (some (.int (nI (a 0 t)))) σ') := rfl
theorem k_V_clear {l : Launch} {X : ra_X} {a : Ab} (hW : ab_W a) (kT : ∀ a, ab_W a → ra_MOK l X mi_V_temperAt (sp_V_temperAt a)) : ra_MOK l X mi_V_clear (sp_V_clear a) := by
  refine g_V_clear (c0 := fun as σ Z => ∃ a, ab_W a ∧ sp_V_readTexts a as σ Z) (ra_MOK_ex (fun a ha => k_V_readTexts ha (kT a ha))) (sp_V_clear a) ?_
  intro as σ Z _ _ h
  unfold sp_V_clear at h
  split at h
  · obtain ⟨rfl, hT, t, ht, rfl, h2⟩ := h
    have w1 := hW.1
    have w2 := hW.2.1
    obtain ⟨k1, k2, k3, k4, k5, k6⟩ := hT
    rcases (show t = 0 ∨ t = 1 by omega) with rfl | rfl
    · show b_V_clear_0 _ Z (ra_pad 3 [.ref 1, .ref 2]) [] σ
      simp (disch := omega) only [b_V_clear_0, e_al1, e_al0, e_il2, e_is2i, e_is2r, e_is2n, e_c, e_gi, e_pi, e_ir, e_cv1, e_hd, e_c10, e_c1i, e_c1r, e_sh0, e_sh1, e_sh2, e_sh3, e_sh4, e_tls, e_tln, e_tl0, e_tl1, cl_1, cl_2, cl_4, q_V_readTexts, Nat.reduceAdd, true_and, and_true, true_implies, not_true_eq_false, false_implies, not_false_eq_true, imp_self, forall_const, List.append_nil, ra_I, ra_J, ra_pad, true_or, or_true, Nat.reduceEqDiff, ra_bz, eq_self, if_true, if_false, false_and, and_false, Nat.zero_le, List.cons_append, List.nil_append, Nat.reduceLT, Nat.reduceLeDiff, Nat.reduceMul, Nat.reduceSub, n_0, n_1, n_2, n_3, n_4, n_5, n_6, n_7, n_8, n_9, n_10, n_12, n_40, n_48, n_57, n_59, n_72, n_99, n_102, n_103, n_107, n_108, n_192, n_255, n_256, n_999, n_1000, n_104, nI_add, pk_mul, n_cl, n_inT, n_le, n_lt, n_eq, n_m1, n_m1', n_lem1, n_m1le, n_ltm1, n_m1lt, n_lepred, n_shl, fa_or, k3]
      refine ⟨(ab_wipe a (nI 0)).1, ab_wipe_W hW _, ?_, fun σ' g1 g2 g3 => h2 σ' g1 ?_ ?_⟩
      · rw [ab_wipe_yes (by decide)]
        refine ⟨by simpa [sw_at] using k1, by simpa [sw_at] using k2, by simp [sw_at, ab_u], by simp [sw_at, ab_u, k4], fun i hi => ?_, fun i hi => ?_⟩
        · simp [ab_u] at hi
        · simp [ab_u] at hi
          simpa [sw_at, ab_u] using k6 i hi
      · exact ((ra_fs.rf (cs := [1, 2, 3, 4, 5, 6, 7, 8, 9, 10, 11]) (ss := [])).sw (Or.inl (by decide))).tr g2.fs (by decide) (by decide)
      · exact g3
    · show b_V_clear_0 _ Z (ra_pad 3 [.ref 1, .ref 4]) [] σ
      simp (disch := omega) only [b_V_clear_0, e_al1, e_al0, e_il2, e_is2i, e_is2r, e_is2n, e_c, e_gi, e_pi, e_ir, e_cv1, e_hd, e_c10, e_c1i, e_c1r, e_sh0, e_sh1, e_sh2, e_sh3, e_sh4, e_tls, e_tln, e_tl0, e_tl1, cl_1, cl_2, cl_4, q_V_readTexts, Nat.reduceAdd, true_and, and_true, true_implies, not_true_eq_false, false_implies, not_false_eq_true, imp_self, forall_const, List.append_nil, ra_I, ra_J, ra_pad, true_or, or_true, Nat.reduceEqDiff, ra_bz, eq_self, if_true, if_false, false_and, and_false, Nat.zero_le, List.cons_append, List.nil_append, Nat.reduceLT, Nat.reduceLeDiff, Nat.reduceMul, Nat.reduceSub, n_0, n_1, n_2, n_3, n_4, n_5, n_6, n_7, n_8, n_9, n_10, n_12, n_40, n_48, n_57, n_59, n_72, n_99, n_102, n_103, n_107, n_108, n_192, n_255, n_256, n_999, n_1000, n_104, nI_add, pk_mul, n_cl, n_inT, n_le, n_lt, n_eq, n_m1, n_m1', n_lem1, n_m1le, n_ltm1, n_m1lt, n_lepred, n_shl, fa_or, k4]
      refine ⟨(ab_wipe a (nI 1)).1, ab_wipe_W hW _, ?_, fun σ' g1 g2 g3 => h2 σ' g1 ?_ ?_⟩
      · rw [ab_wipe_yes (by decide)]
        refine ⟨by simpa [sw_at] using k1, by simpa [sw_at] using k2, by simp [sw_at, ab_u, k3], by simp [sw_at, ab_u], fun i hi => ?_, fun i hi => ?_⟩
        · simp [ab_u] at hi
          simpa [sw_at, ab_u] using k5 i hi
        · simp [ab_u] at hi
      · exact ((ra_fs.rf (cs := [1, 2, 3, 4, 5, 6, 7, 8, 9, 10, 11]) (ss := [])).sw (Or.inl (by decide))).tr g2.fs (by decide) (by decide)
      · exact g3
  · exact h.elim
/-- what a change of the texts leaves -/
theorem ab_same_W {a a' : Ab} {σ : ra_St} (h : rc_W a σ) (e3 : a' 3 0 = a 3 0) (e4 : a' 4 = a 4) (e5 : a' 5 = a 5) : rc_W a' σ := by
  unfold rc_W
  rw [e3, e4, e5]
  exact h
theorem ab_same_X {a a' : Ab} {σ : ra_St} (h : rc_X a σ) (e : a' 6 = a 6) : rc_X a' σ := by
  unfold rc_X
  rw [e]
  exact h
theorem ab_same_K {a a' : Ab} {σ : ra_St} (h : rc_K a σ) (e7 : a' 7 0 = a 7 0) (e8 : a' 8 = a 8) (e9 : a' 9 = a 9) (e10 : a' 10 = a 10) : rc_K a' σ := by
  unfold rc_K
  rw [e7, e8, e9, e10]
  exact h
theorem rc_I.text {a a' : Ab} {b : Bb} {n : Nat} {σ σ' : ra_St} (h : rc_I a b n σ) (hn : n < 1000000000) (h3 : a 3 0 ≤ 12) (e : ∀ i, 3 ≤ i → a' i = a i) (hV : rc_V a' σ') (hf : ra_fs [1, 2, 3, 4, 5, 6, 7, 8, 9, 10, 11] [] σ σ') (hc : σ' 1 11 = σ 1 11 + 1) : rc_I a' b (n + 1) σ' := by
  obtain ⟨h1, h2, h3, h4, h5, v, w, e', k, h6, h7, h8, h9, h10, h11, h12⟩ := h
  refine ⟨hV, ?_, ?_, ?_, h5.fs hf (by decide), v + 1, w, e', k, ?_, ⟨?_, ?_, ?_, ?_⟩, ?_, ?_, ?_, ?_, ?_⟩
  · exact ab_same_W (h2.fs hf (by decide)) (by rw [e 3 (by decide)]) (e 4 (by decide)) (e 5 (by decide))
  · exact ab_same_X (h3.fs hf (by decide)) (e 6 (by decide))
  · exact ab_same_K (h4.fs hf (by decide)) (by rw [e 7 (by decide)]) (e 8 (by decide)) (e 9 (by decide)) (e 10 (by decide))
  · rw [e 3 (by decide)]; omega
  · rw [hc, h7.1, n_1, nI_add]
  · rw [← h7.2.1]; exact hf 12 4 (by decide) (by decide)
  · rw [← h7.2.2.1]; exact hf 41 8 (by decide) (by decide)
  · rw [← h7.2.2.2]; exact hf 54 10 (by decide) (by decide)
  · exact (h8.fs hf (by decide)).more (by omega)
  · exact (h9.fs hf (by decide)).more (by omega)
  · exact (h10.fs hf (by decide)).more (by omega)
  · exact (h11.fs hf (by decide)).more (by omega)
  · exact (h12.fs hf (by decide)).more (by omega)
def sp_R_type (a : Ab) (b : Bb) (n : Nat) : ra_Sp := ra_f2 0 (fun t x σ Z => rc_I a b n σ ∧ ∀ σ', rc_I (ab_type a t x).1 b (n + 1) σ' → ra_up σ σ' → Z (some (.int (ab_type a t x).2)) σ')
theorem q_R_type {a : Ab} {b : Bb} {n : Nat} {oo : Nat} {t x : Int32} {σ : ra_St} {Z : ra_R} : sp_R_type a b n [.ref oo, .int t, .int x] σ Z = (oo = 0 ∧ (rc_I a b n σ ∧ ∀ σ', rc_I (ab_type a t x).1 b (n + 1) σ' → ra_up σ σ' → Z (some (.int (ab_type a t x).2)) σ')) := rfl
theorem k_R_type {l : Launch} {X : ra_X} {a : Ab} {b : Bb} {n : Nat} (hn : n < 1000000000) (hW : ab_W a) (kT : ∀ a, ab_W a → ra_MOK l X mi_V_temperAt (sp_V_temperAt a)) : ra_MOK l X mi_R_type (sp_R_type a b n) := by
  refine g_R_type k_R_isOutside k_V_textOf (k_V_append hW kT) (sp_R_type a b n) ?_
  intro as σ Z _ _ h
  obtain ⟨t, x, rfl, hI, hZ⟩ := x_f2 h
  by_cases hno : an_in t 1 ∧ an_in x 255
  · obtain ⟨t, ht, rfl⟩ := an_in_of hno.1 (by decide)
    obtain ⟨x, hx, rfl⟩ := an_in_of hno.2 (by decide)
    have full : a 0 t = tx_most t → Z (some (.int (-4))) σ := by
      intro q
      rw [ab_type_full ht hx q] at hZ
      exact hZ σ (hI.more (by omega)) ra_up.rf
    have fits : a 0 t ≠ tx_most t → ∀ σ', rc_V (ab_type a (nI t) (nI x)).1 σ' → ra_fs [1, 2, 3, 4, 5, 6, 7, 8, 9, 10, 11] [] σ σ' → σ' 1 11 = σ 1 11 + 1 → Z (some (.int (nI (a 0 t + 1)))) σ' := by
      intro q σ' g1 g2 g3
      have h9 := hZ σ' (hI.text hn hW.2.2.2.2.1 (fun i hi => ?_) g1 g2 g3) (g2.hi (by decide))
      · rw [ab_type_yes ht hx q] at h9
        exact h9
      · rw [ab_type_yes ht hx q]
        funext j
        simp only [ab_u]
        rw [if_neg (by omega), if_neg (by omega)]
    simp (disch := omega) only [b_R_type_23, b_R_type_20, b_R_type_9, b_R_type_0, e_al0, e_il1, e_il2, e_c, e_b1, e_gr, e_ir, e_cs3, e_cv2, e_hd, e_cv3, e_c10, e_c1i, e_c1r, e_sh0, e_sh1, e_sh2, e_sh3, e_sh4, e_tls, e_tln, e_tl0, e_tl1, cl_0, cl_1, tg_0_0, q_R_isOutside, q_V_textOf, Nat.reduceAdd, true_and, and_true, true_implies, not_true_eq_false, false_implies, not_false_eq_true, imp_self, forall_const, List.append_nil, ra_I, ra_J, ra_pad, true_or, or_true, Nat.reduceEqDiff, ra_bz, eq_self, if_true, if_false, false_and, and_false, Nat.zero_le, List.cons_append, List.nil_append, Nat.reduceLT, Nat.reduceLeDiff, Nat.reduceMul, Nat.reduceSub, n_0, n_1, n_2, n_3, n_4, n_5, n_6, n_7, n_8, n_9, n_10, n_12, n_40, n_48, n_57, n_59, n_72, n_99, n_102, n_103, n_107, n_108, n_192, n_255, n_256, n_999, n_1000, n_104, nI_add, pk_mul, n_cl, n_inT, n_le, n_lt, n_eq, n_m1, n_m1', n_lem1, n_m1le, n_ltm1, n_m1lt, n_lepred, n_shl, fa_or, q_V_append]
    refine ⟨fun q => absurd ht q, fun _ => ⟨fun q => absurd hx q, fun _ => ⟨fun q => ⟨hno.2, hI.1.1, t, ht, ?_, full, fits⟩, fun q => ⟨hno.2, hI.1.1, t, ht, ?_, full, fits⟩⟩⟩⟩
    · rw [q]; rfl
    · rw [show t = 1 by omega]; rfl
  · rw [ab_type_no hno] at hZ
    have h9 := hZ σ (hI.more (by omega)) ra_up.rf
    simp (disch := omega) only [b_R_type_20, b_R_type_9, b_R_type_0, e_al0, e_il1, e_il2, e_c, e_b1, e_gr, e_ir, e_cs3, e_cv2, e_hd, e_cv3, e_c10, e_c1i, e_c1r, e_sh0, e_sh1, e_sh2, e_sh3, e_sh4, e_tls, e_tln, e_tl0, e_tl1, cl_0, cl_1, tg_0_0, q_R_isOutside, q_V_textOf, Nat.reduceAdd, true_and, and_true, true_implies, not_true_eq_false, false_implies, not_false_eq_true, imp_self, forall_const, List.append_nil, ra_I, ra_J, ra_pad, true_or, or_true, Nat.reduceEqDiff, ra_bz, eq_self, if_true, if_false, false_and, and_false, Nat.zero_le, List.cons_append, List.nil_append, Nat.reduceLT, Nat.reduceLeDiff, Nat.reduceMul, Nat.reduceSub, n_0, n_1, n_2, n_3, n_4, n_5, n_6, n_7, n_8, n_9, n_10, n_12, n_40, n_48, n_57, n_59, n_72, n_99, n_102, n_103, n_107, n_108, n_192, n_255, n_256, n_999, n_1000, n_104, nI_add, pk_mul, n_cl, n_inT, n_le, n_lt, n_eq, n_m1, n_m1', n_lem1, n_m1le, n_ltm1, n_m1lt, n_lepred, n_shl, fa_or]
    exact ⟨fun _ => h9, fun q => ⟨fun _ => h9, fun q2 => absurd ⟨Classical.not_not.mp q, Classical.not_not.mp q2⟩ hno⟩⟩
def sp_R_wipe (a : Ab) (b : Bb) (n : Nat) : ra_Sp := ra_f1 0 (fun t σ Z => rc_I a b n σ ∧ ∀ σ', rc_I (ab_wipe a t).1 b (n + 1) σ' → ra_up σ σ' → Z (some (.int (ab_wipe a t).2)) σ')
theorem q_R_wipe {a : Ab} {b : Bb} {n : Nat} {oo : Nat} {t : Int32} {σ : ra_St} {Z : ra_R} : sp_R_wipe a b n [.ref oo, .int t] σ Z = (oo = 0 ∧ (rc_I a b n σ ∧ ∀ σ', rc_I (ab_wipe a t).1 b (n + 1) σ' → ra_up σ σ' → Z (some (.int (ab_wipe a t).2)) σ')) := rfl
theorem k_R_wipe {l : Launch} {X : ra_X} {a : Ab} {b : Bb} {n : Nat} (hn : n < 1000000000) (hW : ab_W a) (kT : ∀ a, ab_W a → ra_MOK l X mi_V_temperAt (sp_V_temperAt a)) : ra_MOK l X mi_R_wipe (sp_R_wipe a b n) := by
  refine g_R_wipe k_R_isOutside k_V_textOf (k_V_clear hW kT) (sp_R_wipe a b n) ?_
  intro as σ Z _ _ h
  obtain ⟨t, rfl, hI, hZ⟩ := x_f1 h
  by_cases hno : an_in t 1
  · obtain ⟨t, ht, rfl⟩ := an_in_of hno (by decide)
    have fits : ∀ σ', rc_V (ab_wipe a (nI t)).1 σ' → ra_fs [1, 2, 3, 4, 5, 6, 7, 8, 9, 10, 11] [] σ σ' → σ' 1 11 = σ 1 11 + 1 → Z (some (.int (nI (a 0 t)))) σ' := by
      intro σ' g1 g2 g3
      have h9 := hZ σ' (hI.text hn hW.2.2.2.2.1 (fun i hi => ?_) g1 g2 g3) (g2.hi (by decide))
      · rw [ab_wipe_yes ht] at h9
        exact h9
      · rw [ab_wipe_yes ht]
        funext j
        simp only [ab_u]
        rw [if_neg (by omega)]
    simp (disch := omega) only [b_R_wipe_12, b_R_wipe_9, b_R_wipe_0, e_al0, e_il1, e_c, e_b1, e_gr, e_ir, e_cs3, e_cv2, e_hd, e_c10, e_c1i, e_c1r, e_sh0, e_sh1, e_sh2, e_sh3, e_sh4, e_tls, e_tln, e_tl0, e_tl1, cl_0, cl_1, tg_0_0, q_R_isOutside, q_V_textOf, Nat.reduceAdd, true_and, and_true, true_implies, not_true_eq_false, false_implies, not_false_eq_true, imp_self, forall_const, List.append_nil, ra_I, ra_J, ra_pad, true_or, or_true, Nat.reduceEqDiff, ra_bz, eq_self, if_true, if_false, false_and, and_false, Nat.zero_le, List.cons_append, List.nil_append, Nat.reduceLT, Nat.reduceLeDiff, Nat.reduceMul, Nat.reduceSub, n_0, n_1, n_2, n_3, n_4, n_5, n_6, n_7, n_8, n_9, n_10, n_12, n_40, n_48, n_57, n_59, n_72, n_99, n_102, n_103, n_107, n_108, n_192, n_255, n_256, n_999, n_1000, n_104, nI_add, pk_mul, n_cl, n_inT, n_le, n_lt, n_eq, n_m1, n_m1', n_lem1, n_m1le, n_ltm1, n_m1lt, n_lepred, n_shl, fa_or, q_V_clear]
    refine ⟨fun q => absurd ht q, fun _ => ⟨fun q => ⟨hI.1.1, t, ht, ?_, fits⟩, fun q => ⟨hI.1.1, t, ht, ?_, fits⟩⟩⟩
    · rw [q]; rfl
    · rw [show t = 1 by omega]; rfl
  · rw [ab_wipe_no hno] at hZ
    have h9 := hZ σ (hI.more (by omega)) ra_up.rf
    simp (disch := omega) only [b_R_wipe_9, b_R_wipe_0, e_al0, e_il1, e_c, e_b1, e_gr, e_ir, e_cs3, e_cv2, e_hd, e_c10, e_c1i, e_c1r, e_sh0, e_sh1, e_sh2, e_sh3, e_sh4, e_tls, e_tln, e_tl0, e_tl1, cl_0, cl_1, tg_0_0, q_R_isOutside, q_V_textOf, Nat.reduceAdd, true_and, and_true, true_implies, not_true_eq_false, false_implies, not_false_eq_true, imp_self, forall_const, List.append_nil, ra_I, ra_J, ra_pad, true_or, or_true, Nat.reduceEqDiff, ra_bz, eq_self, if_true, if_false, false_and, and_false, Nat.zero_le, List.cons_append, List.nil_append, Nat.reduceLT, Nat.reduceLeDiff, Nat.reduceMul, Nat.reduceSub, n_0, n_1, n_2, n_3, n_4, n_5, n_6, n_7, n_8, n_9, n_10, n_12, n_40, n_48, n_57, n_59, n_72, n_99, n_102, n_103, n_107, n_108, n_192, n_255, n_256, n_999, n_1000, n_104, nI_add, pk_mul, n_cl, n_inT, n_le, n_lt, n_eq, n_m1, n_m1', n_lem1, n_m1le, n_ltm1, n_m1lt, n_lepred, n_shl, fa_or]
    exact ⟨fun _ => h9, fun q => absurd (Classical.not_not.mp q) hno⟩
/-- weather: one more change -/
theorem rc_I.wea {a a' : Ab} {b : Bb} {n n' : Nat} {σ σ' : ra_St} (h : rc_I a b n σ) (e0 : ∀ i, i < 3 → a' i = a i) (e6 : ∀ i, 6 ≤ i → a' i = a i) (hn : 2 * n + a 3 0 + 1 ≤ 2 * n' + a' 3 0) (hW : rc_W a' σ') (hf : ra_fs [13] [(12, 1), (12, 2), (12, 3), (12, 4)] σ σ') (hc : σ' 12 4 = σ 12 4 + 1) : rc_I a' b n' σ' := by
  obtain ⟨h1, h2, h3, h4, h5, v, w, e', k, h6, h7, h8, h9, h10, h11, h12⟩ := h
  refine ⟨(lc_V (e0 0 (by decide)) (e0 1 (by decide)) (e0 2 (by decide)) h1).fs hf (by decide), hW, ?_, ?_, h5.fs hf (by decide), v, w + 1, e', k, ?_, ⟨?_, ?_, ?_, ?_⟩, ?_, ?_, ?_, ?_, ?_⟩
  · exact ab_same_X (h3.fs hf (by decide)) (e6 6 (by decide))
  · exact ab_same_K (h4.fs hf (by decide)) (by rw [e6 7 (by decide)]) (e6 8 (by decide)) (e6 9 (by decide)) (e6 10 (by decide))
  · omega
  · rw [← h7.1]; exact hf 1 11 (by decide) (by decide)
  · rw [hc, h7.2.1, n_1, nI_add]
  · rw [← h7.2.2.1]; exact hf 41 8 (by decide) (by decide)
  · rw [← h7.2.2.2]; exact hf 54 10 (by decide) (by decide)
  · exact (h8.fs hf (by decide)).more (by omega)
  · exact (h9.fs hf (by decide)).more (by omega)
  · exact lc_Y (e0 0 (by decide)) (e0 1 (by decide)) (e0 2 (by decide)) (e6 6 (by decide)) (h10.fs hf (by decide))
  · exact lc_B (e0 0 (by decide)) (e0 1 (by decide)) (e6 6 (by decide)) (h11.fs hf (by decide))
  · exact lc_J (e0 0 (by decide)) (e0 1 (by decide)) (e6 7 (by decide)) (e6 8 (by decide)) (e6 9 (by decide)) (e6 10 (by decide)) (h12.fs hf (by decide))
theorem n_inc (x : Int32) : x + nI 1 = x + 1 := rfl
def sp_Wt_take (a : Ab) (b : Bb) : ra_Sp := ra_f1 12 (fun v σ Z => ∃ n, n < 1000000000 ∧ rc_I a b n σ ∧ (an_in v 9 → a 3 0 ≠ 12 → ∀ σ', rc_I (ab_rain a v).1 b n σ' → ra_up σ σ' → Z (some (.int (ab_rain a v).2)) σ') ∧ (¬ (an_in v 9 ∧ a 3 0 ≠ 12) → Z (some (.int (ab_rain a v).2)) σ))
theorem q_Wt_take {a : Ab} {b : Bb} {oo : Nat} {v : Int32} {σ : ra_St} {Z : ra_R} : sp_Wt_take a b [.ref oo, .int v] σ Z = (oo = 12 ∧ (∃ n, n < 1000000000 ∧ rc_I a b n σ ∧ (an_in v 9 → a 3 0 ≠ 12 → ∀ σ', rc_I (ab_rain a v).1 b n σ' → ra_up σ σ' → Z (some (.int (ab_rain a v).2)) σ') ∧ (¬ (an_in v 9 ∧ a 3 0 ≠ 12) → Z (some (.int (ab_rain a v).2)) σ))) := rfl
theorem k_Wt_take {l : Launch} {X : ra_X} {a : Ab} {b : Bb} (hW : ab_W a) : ra_MOK l X mi_Wt_take (sp_Wt_take a b) := by
  refine g_Wt_take k_R_isOutside (sp_Wt_take a b) ?_
  intro as σ Z _ _ h
  obtain ⟨v, rfl, n, hn, hI, h1, h2⟩ := x_f1 h
  have w := hW.2.2.2.2.1
  have hWe := hI.2.1
  by_cases hv : an_in v 9
  · obtain ⟨v, hv2, rfl⟩ := an_in_of hv (by decide)
    by_cases hf : a 3 0 = 12
    · have h9 := h2 (fun z => z.2 hf)
      rw [ab_rain_full hv2 hf] at h9
      simp (disch := omega) only [b_Wt_take_22, b_Wt_take_13, b_Wt_take_10, b_Wt_take_0, e_al0, e_il1, e_c, e_i2, e_b1, e_b2, e_gi, e_gr, e_pi, e_ast, e_ir, e_dupi, e_dupr, e_cs3, e_c10, e_c1i, e_c1r, e_sh0, e_sh1, e_sh2, e_sh3, e_sh4, e_tls, e_tln, e_tl0, e_tl1, cl_12, cl_13, ln_13, tg_12_0, q_R_isOutside, Nat.reduceAdd, true_and, and_true, true_implies, not_true_eq_false, false_implies, not_false_eq_true, imp_self, forall_const, List.append_nil, ra_I, ra_J, ra_pad, true_or, or_true, Nat.reduceEqDiff, ra_bz, eq_self, if_true, if_false, false_and, and_false, Nat.zero_le, List.cons_append, List.nil_append, Nat.reduceLT, Nat.reduceLeDiff, Nat.reduceMul, Nat.reduceSub, n_0, n_1, n_2, n_3, n_4, n_5, n_6, n_7, n_8, n_9, n_10, n_12, n_40, n_48, n_57, n_59, n_72, n_99, n_102, n_103, n_107, n_108, n_192, n_255, n_256, n_999, n_1000, n_104, nI_add, pk_mul, n_cl, n_inT, n_le, n_lt, n_eq, n_m1, n_m1', n_lem1, n_m1le, n_ltm1, n_m1lt, n_lepred, n_shl, fa_or, hWe.1]
      exact ⟨fun q => absurd hv2 q, fun _ => ⟨fun q => by omega, fun _ => h9⟩⟩
    · have h9 := h1 hv hf
      rw [ab_rain_yes hv2 hf] at h9
      simp (disch := omega) only [b_Wt_take_25, b_Wt_take_22, b_Wt_take_13, b_Wt_take_10, b_Wt_take_0, e_al0, e_il1, e_c, e_i2, e_b1, e_b2, e_gi, e_gr, e_pi, e_ast, e_ir, e_dupi, e_dupr, e_cs3, e_c10, e_c1i, e_c1r, e_sh0, e_sh1, e_sh2, e_sh3, e_sh4, e_tls, e_tln, e_tl0, e_tl1, cl_12, cl_13, ln_13, tg_12_0, q_R_isOutside, Nat.reduceAdd, true_and, and_true, true_implies, not_true_eq_false, false_implies, not_false_eq_true, imp_self, forall_const, List.append_nil, ra_I, ra_J, ra_pad, true_or, or_true, Nat.reduceEqDiff, ra_bz, eq_self, if_true, if_false, false_and, and_false, Nat.zero_le, List.cons_append, List.nil_append, Nat.reduceLT, Nat.reduceLeDiff, Nat.reduceMul, Nat.reduceSub, n_0, n_1, n_2, n_3, n_4, n_5, n_6, n_7, n_8, n_9, n_10, n_12, n_40, n_48, n_57, n_59, n_72, n_99, n_102, n_103, n_107, n_108, n_192, n_255, n_256, n_999, n_1000, n_104, nI_add, pk_mul, n_cl, n_inT, n_le, n_lt, n_eq, n_m1, n_m1', n_lem1, n_m1le, n_ltm1, n_m1lt, n_lepred, n_shl, fa_or, hWe.1, sw_at]
      refine ⟨fun q => absurd hv2 q, fun _ => ⟨fun q => h9 _ (hI.wea (fun i hi => ?_) (fun i hi => ?_) ?_ ?_ ?_ ?_) ?_, fun q => by omega⟩⟩
      · funext j
        simp only [ab_u]
        rw [if_neg (by omega), if_neg (by omega)]
      · funext j
        simp only [ab_u]
        rw [if_neg (by omega), if_neg (by omega)]
      · simp [ab_u]
        omega
      · refine ⟨by simp [sw_at, ab_u], fun k hk => ?_, by simpa [sw_at, ab_u] using hWe.2.2.1, by simpa [sw_at, ab_u] using hWe.2.2.2⟩
        simp [ab_u] at hk
        by_cases e : k = a 3 0
        · subst e; simp [sw_at, ab_u]
        · simpa [sw_at, ab_u, e] using hWe.2.1 k (by omega)
      · exact (((ra_fs.rf (cs := [13]) (ss := [(12, 1), (12, 2), (12, 3), (12, 4)])).sw (Or.inl (by decide))).sw (Or.inr (by decide))).sw (Or.inr (by decide))
      · simp [sw_at]
        rfl
      · intro c hc
        rw [show (ra_sw _ 12 4 _ : ra_St) c = _ from ra_su_ne _ _ (by omega), show (ra_sw _ 12 1 _ : ra_St) c = _ from ra_su_ne _ _ (by omega), show (ra_sw _ 13 _ _ : ra_St) c = _ from ra_su_ne _ _ (by omega)]
  · have h9 := h2 (fun z => hv z.1)
    rw [ab_rain_no hv] at h9
    simp (disch := omega) only [b_Wt_take_25, b_Wt_take_22, b_Wt_take_10, b_Wt_take_0, e_al0, e_il1, e_c, e_i2, e_b1, e_b2, e_gi, e_gr, e_pi, e_ast, e_ir, e_dupi, e_dupr, e_cs3, e_c10, e_c1i, e_c1r, e_sh0, e_sh1, e_sh2, e_sh3, e_sh4, e_tls, e_tln, e_tl0, e_tl1, cl_12, cl_13, ln_13, tg_12_0, q_R_isOutside, Nat.reduceAdd, true_and, and_true, true_implies, not_true_eq_false, false_implies, not_false_eq_true, imp_self, forall_const, List.append_nil, ra_I, ra_J, ra_pad, true_or, or_true, Nat.reduceEqDiff, ra_bz, eq_self, if_true, if_false, false_and, and_false, Nat.zero_le, List.cons_append, List.nil_append, Nat.reduceLT, Nat.reduceLeDiff, Nat.reduceMul, Nat.reduceSub, n_0, n_1, n_2, n_3, n_4, n_5, n_6, n_7, n_8, n_9, n_10, n_12, n_40, n_48, n_57, n_59, n_72, n_99, n_102, n_103, n_107, n_108, n_192, n_255, n_256, n_999, n_1000, n_104, nI_add, pk_mul, n_cl, n_inT, n_le, n_lt, n_eq, n_m1, n_m1', n_lem1, n_m1le, n_ltm1, n_m1lt, n_lepred, n_shl, fa_or]
    exact ⟨fun _ => h9, fun q => absurd (Classical.not_not.mp q) hv⟩
