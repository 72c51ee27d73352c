/-! the class: the story of all rains -/
def sp_So_note (a : Ab) : ra_Sp := ra_f1 14 (fun x σ Z => rc_V a σ ∧ ∃ k : Nat, k ≤ 12 ∧ x = nI k ∧ rc_cm 15 a 255 (ab_te a) (sm a (ab_te a) k) σ ∧ ∀ σ', (∀ w h, w < 4 → h < ab_hc a → σ' (24 + w) (8 * k + h) = nI (sm_g (sm a (ab_te a) k) w h)) → (∀ w j, w < 4 → j < 8 * k → σ' (24 + w) j = σ (24 + w) j) → ra_fs [24, 25, 26, 27] [] σ σ' → Z none σ')
theorem q_So_note {a : Ab} {oo : Nat} {x : Int32} {σ : ra_St} {Z : ra_R} : sp_So_note a [.ref oo, .int x] σ Z = (oo = 14 ∧ (rc_V a σ ∧ ∃ k : Nat, k ≤ 12 ∧ x = nI k ∧ rc_cm 15 a 255 (ab_te a) (sm a (ab_te a) k) σ ∧ ∀ σ', (∀ w h, w < 4 → h < ab_hc a → σ' (24 + w) (8 * k + h) = nI (sm_g (sm a (ab_te a) k) w h)) → (∀ w j, w < 4 → j < 8 * k → σ' (24 + w) j = σ (24 + w) j) → ra_fs [24, 25, 26, 27] [] σ σ' → Z none σ')) := rfl
def I_So_note (a : Ab) (Z : ra_R) (as : List Value) (σ0 : ra_St) (t : Nat) (μ : ra_M) : ra_K := fun L S σ => S = [] ∧ ∃ (k h : Nat) (u : Value), as = [.ref 14, .int (nI k)] ∧ k ≤ 12 ∧ h ≤ ab_hc a ∧ (∀ w j, w < 4 → j < h → σ (24 + w) (8 * k + j) = nI (sm_g (sm a (ab_te a) k) w j)) ∧ (∀ w j, w < 4 → j < 8 * k → σ (24 + w) j = σ0 (24 + w) j) ∧ ra_fs [24, 25, 26, 27] [] σ0 σ ∧ μ = (ab_hc a - h, 0, 0) ∧ L = [.ref 14, .int (nI k), .int (nI h), u]
theorem tb255 : ∀ h, h < 8 → (255 : Nat).testBit h = true := by decide
theorem k_So_note {l : Launch} {X : ra_X} {a : Ab} : ra_MOK l X mi_So_note (sp_So_note a) := by
  have h8 := ab_hc_8 a
  refine g_So_note (sp_So_note a) (I_So_note a) ?_ ?_
  · intro as σ Z _ _ h
    obtain ⟨_, rfl, hV, k, hk, rfl, hcm, hZ⟩ := x_f1 h
    simp (disch := omega) only [b_So_note_94, b_So_note_13, b_So_note_2, b_So_note_0, e_il1, e_il2, e_al0, e_il3, e_is3i, e_is3r, e_is3n, e_is2i, e_is2r, e_is2n, e_inc2i, e_inc2r, e_inc2n, e_c, e_i2, e_b2, e_gi, e_gr, e_ald, e_ast, e_rld, e_vr, cl_1, cl_14, cl_15, cl_18, ln_18, cl_19, ln_19, cl_20, ln_20, cl_21, ln_21, cl_23, ln_23, tg_14_0, tg_14_2, tg_14_3, tg_15_4, tg_15_5, tg_15_6, tg_15_7, Nat.reduceAdd, true_and, and_true, true_implies, not_true_eq_false, false_implies, not_false_eq_true, imp_self, forall_const, List.append_nil, ra_I, ra_J, ra_pad, true_or, or_true, Nat.reduceEqDiff, ra_bz, eq_self, if_true, if_false, false_and, and_false, Nat.zero_le, List.cons_append, List.nil_append, Nat.reduceLT, Nat.reduceLeDiff, Nat.reduceMul, Nat.reduceSub, n_0, n_1, n_2, n_3, n_4, n_5, n_6, n_7, n_8, n_9, n_10, n_12, n_40, n_48, n_57, n_59, n_72, n_99, n_102, n_103, n_107, n_108, n_192, n_255, n_256, n_999, n_1000, n_104, nI_add, pk_mul, n_cl, n_inT, n_le, n_lt, n_eq, n_m1, n_m1', n_lem1, n_m1le, n_ltm1, n_m1lt, n_lepred, n_shl, fa_or]
    exact ⟨_, rfl, k, 0, _, rfl, hk, by omega, fun w j _ hj => by omega, fun w j _ _ => rfl, ra_fs.rf, rfl, rfl⟩
  · intro as σ0 Z h0 μ L S σ hI
    obtain ⟨rfl, k, h, u, rfl, hk, hh, hq, hb, hf, rfl, rfl⟩ := hI
    obtain ⟨_, e, hV0, k', hk', e2, hcm, hZ⟩ := x_f1 h0
    cases e
    rw [n_eq (by omega) (by omega)] at e2
    subst e2
    have hV := hV0.fs hf (by decide)
    by_cases hlt : h < ab_hc a
    · obtain ⟨-, -, d3, d4, d5, d6⟩ := hcm.1 h hlt (tb255 h (by omega))
      simp only [Nat.reduceAdd] at d3 d4 d5 d6
      rw [← hf 18 h (by decide) (by simp)] at d3
      rw [← hf 19 h (by decide) (by simp)] at d4
      rw [← hf 20 h (by decide) (by simp)] at d5
      rw [← hf 21 h (by decide) (by simp)] at d6
      obtain ⟨t0, u0, v0⟩ := tg_s 0 (by decide)
      obtain ⟨t1, u1, v1⟩ := tg_s 1 (by decide)
      obtain ⟨t2, u2, v2⟩ := tg_s 2 (by decide)
      obtain ⟨t3, u3, v3⟩ := tg_s 3 (by decide)
      simp only [Nat.reduceAdd] at t0 u0 v0 t1 u1 v1 t2 u2 v2 t3 u3 v3
      simp (disch := omega) only [b_So_note_13, b_So_note_2, b_So_note_0, e_il1, e_il2, e_al0, e_il3, e_is3i, e_is3r, e_is3n, e_is2i, e_is2r, e_is2n, e_inc2i, e_inc2r, e_inc2n, e_c, e_i2, e_b2, e_gi, e_gr, e_ald, e_ast, e_rld, e_vr, cl_1, cl_14, cl_15, cl_18, ln_18, cl_19, ln_19, cl_20, ln_20, cl_21, ln_21, cl_23, ln_23, tg_14_0, tg_14_2, tg_14_3, tg_15_4, tg_15_5, tg_15_6, tg_15_7, Nat.reduceAdd, true_and, and_true, true_implies, not_true_eq_false, false_implies, not_false_eq_true, imp_self, forall_const, List.append_nil, ra_I, ra_J, ra_pad, true_or, or_true, Nat.reduceEqDiff, ra_bz, eq_self, if_true, if_false, false_and, and_false, Nat.zero_le, List.cons_append, List.nil_append, Nat.reduceLT, Nat.reduceLeDiff, Nat.reduceMul, Nat.reduceSub, n_0, n_1, n_2, n_3, n_4, n_5, n_6, n_7, n_8, n_9, n_10, n_12, n_40, n_48, n_57, n_59, n_72, n_99, n_102, n_103, n_107, n_108, n_192, n_255, n_256, n_999, n_1000, n_104, nI_add, pk_mul, n_cl, n_inT, n_le, n_lt, n_eq, n_m1, n_m1', n_lem1, n_m1le, n_ltm1, n_m1lt, n_lepred, n_shl, fa_or, hV.2.1.1, d3, d4, d5, d6, t0, u0, v0, t1, u1, v1, t2, u2, v2, t3, u3, v3, sw_at]
      have hf1 : ra_fs [24, 25, 26, 27] [] σ (ra_sw (ra_sw (ra_sw (ra_sw σ 24 (k * 8 + h) (nI ((sm a (ab_te a) k).1 h))) 25 (k * 8 + h) (nI ((sm a (ab_te a) k).2.1 h))) 26 (k * 8 + h) (nI ((sm a (ab_te a) k).2.2.1 h))) 27 (k * 8 + h) (nI ((sm a (ab_te a) k).2.2.2.1 h))) := (((ra_fs.rf.sw (Or.inl (by decide))).sw (Or.inl (by decide))).sw (Or.inl (by decide))).sw (Or.inl (by decide))
      refine ⟨fun q => by omega, fun _ => ⟨(ab_hc a - (h + 1), 0, 0), lx1 (by omega), rfl, k, h + 1, _, rfl, hk, by omega, fun w j hw hj => ?_, fun w j hw hj => ?_, hf.tr hf1 (by decide) (by decide), rfl, rfl⟩⟩
      · have h9 := hq w j hw
        rcases (show w = 0 ∨ w = 1 ∨ w = 2 ∨ w = 3 by omega) with rfl | rfl | rfl | rfl
        all_goals
          by_cases e : j = h
          · subst e
            simp [sw_at, show 8 * k + j = k * 8 + j by omega, sm_g]
          · have h10 := h9 (by omega)
            simpa [sw_at, show ¬ 8 * k + j = k * 8 + h by omega] using h10
      · have h9 := hb w j hw hj
        rcases (show w = 0 ∨ w = 1 ∨ w = 2 ∨ w = 3 by omega) with rfl | rfl | rfl | rfl
        all_goals simpa [sw_at, show ¬ j = k * 8 + h by omega] using h9
    · simp (disch := omega) only [b_So_note_94, b_So_note_2, b_So_note_0, e_il1, e_il2, e_al0, e_il3, e_is3i, e_is3r, e_is3n, e_is2i, e_is2r, e_is2n, e_inc2i, e_inc2r, e_inc2n, e_c, e_i2, e_b2, e_gi, e_gr, e_ald, e_ast, e_rld, e_vr, cl_1, cl_14, cl_15, cl_18, ln_18, cl_19, ln_19, cl_20, ln_20, cl_21, ln_21, cl_23, ln_23, tg_14_0, tg_14_2, tg_14_3, tg_15_4, tg_15_5, tg_15_6, tg_15_7, Nat.reduceAdd, true_and, and_true, true_implies, not_true_eq_false, false_implies, not_false_eq_true, imp_self, forall_const, List.append_nil, ra_I, ra_J, ra_pad, true_or, or_true, Nat.reduceEqDiff, ra_bz, eq_self, if_true, if_false, false_and, and_false, Nat.zero_le, List.cons_append, List.nil_append, Nat.reduceLT, Nat.reduceLeDiff, Nat.reduceMul, Nat.reduceSub, n_0, n_1, n_2, n_3, n_4, n_5, n_6, n_7, n_8, n_9, n_10, n_12, n_40, n_48, n_57, n_59, n_72, n_99, n_102, n_103, n_107, n_108, n_192, n_255, n_256, n_999, n_1000, n_104, nI_add, pk_mul, n_cl, n_inT, n_le, n_lt, n_eq, n_m1, n_m1', n_lem1, n_m1le, n_ltm1, n_m1lt, n_lepred, n_shl, fa_or, hV.2.1.1]
      exact ⟨fun _ => hZ σ (fun w j hw hj => hq w j hw (by omega)) hb hf, fun q => by omega⟩
def sp_So_tell (a : Ab) : ra_Sp := ra_f0 14 (fun σ Z => rc_V a σ ∧ rc_W a σ ∧ ∀ σ', rs_S a σ' → ra_fs [16, 17, 18, 19, 20, 21, 22, 24, 25, 26, 27] [(15, 9), (15, 10)] σ σ' → Z none σ')
theorem q_So_tell {a : Ab} {oo : Nat} {σ : ra_St} {Z : ra_R} : sp_So_tell a [.ref oo] σ Z = (oo = 14 ∧ (rc_V a σ ∧ rc_W a σ ∧ ∀ σ', rs_S a σ' → ra_fs [16, 17, 18, 19, 20, 21, 22, 24, 25, 26, 27] [(15, 9), (15, 10)] σ σ' → Z none σ')) := rfl
def I_So_tell (a : Ab) (Z : ra_R) (as : List Value) (σ0 : ra_St) (t : Nat) (μ : ra_M) : ra_K := fun L S σ => S = [] ∧ as = [.ref 14] ∧ ∃ k : Nat, k ≤ a 3 0 ∧ rc_V a σ ∧ rc_W a σ ∧ rc_who 15 a 255 σ ∧ rc_cm 15 a 255 (ab_te a) (sm a (ab_te a) k) σ ∧ (∀ w i h, w < 4 → i ≤ k → h < ab_hc a → σ (24 + w) (8 * i + h) = nI (sm_g (sm a (ab_te a) i) w h)) ∧ ra_fs [16, 17, 18, 19, 20, 21, 22, 24, 25, 26, 27] [(15, 9), (15, 10)] σ0 σ ∧ μ = (a 3 0 - k, 0, 0) ∧ L = [.ref 14, .int (nI k)]
theorem rc_cm.fs {o : Nat} {a : Ab} {B : Nat} {te : Nat → Nat} {m : Sm} {cs : List Nat} {ss : List (Nat × Nat)} {σ σ' : ra_St} (h : rc_cm o a B te m σ) (hf : ra_fs cs ss σ σ') (hd : ra_dj [o + 2, o + 3, o + 4, o + 5, o + 6] [(o, 10)] cs ss = true) : rc_cm o a B te m σ' := by
  unfold rc_cm
  rw [hf.cell hd (c := o + 2) (by simp), hf.cell hd (c := o + 3) (by simp), hf.cell hd (c := o + 4) (by simp), hf.cell hd (c := o + 5) (by simp), hf.cell hd (c := o + 6) (by simp), hf.slot hd (c := o) (j := 10) (by simp)]
  exact h
theorem k_So_tell {l : Launch} {X : ra_X} {a : Ab} (hW : ab_W a) : ra_MOK l X mi_So_tell (sp_So_tell a) := by
  have h8 := ab_hc_8 a
  have hr12 := hW.2.2.2.2.1
  have hcl : rc_cl a 255 := fun h hh _ => ⟨tb255 _ (by have := (ab_on_spec hh).1; omega), tb255 _ (by have := ab_ow_lt hh; omega)⟩
  refine g_So_tell (k_Co_choose_15 (a := a)) (k_Co_begin_15 (a := a) (B := 255)) (k_So_note (a := a)) (k_Co_pass_15 (B := 255) (te := ab_te a) hW) (sp_So_tell a) (I_So_tell a) ?_ ?_
  · intro as σ Z _ _ h
    obtain ⟨rfl, hV, hWe, hZ⟩ := x_f0 h
    simp (disch := omega) only [b_So_tell_64, b_So_tell_35, b_So_tell_24, b_So_tell_0, e_al0, e_il1, e_is1i, e_is1r, e_is1n, e_inc1i, e_inc1r, e_inc1n, e_c, e_i2, e_b2, e_gi, e_gr, e_ald, e_vr, e_cv2, e_hd, e_cv1, e_c10, e_c1i, e_c1r, e_sh0, e_sh1, e_sh2, e_sh3, e_sh4, e_tls, e_tln, e_tl0, e_tl1, cl_12, cl_13, ln_13, cl_14, cl_15, tg_12_0, tg_14_1, tg_14_2, q_Co_choose, q_Co_begin, q_So_note, q_Co_pass, Nat.reduceAdd, true_and, and_true, true_implies, not_true_eq_false, false_implies, not_false_eq_true, imp_self, forall_const, List.append_nil, ra_I, ra_J, ra_pad, true_or, or_true, Nat.reduceEqDiff, ra_bz, eq_self, if_true, if_false, false_and, and_false, Nat.zero_le, List.cons_append, List.nil_append, Nat.reduceLT, Nat.reduceLeDiff, Nat.reduceMul, Nat.reduceSub, n_0, n_1, n_2, n_3, n_4, n_5, n_6, n_7, n_8, n_9, n_10, n_12, n_40, n_48, n_57, n_59, n_72, n_99, n_102, n_103, n_107, n_108, n_192, n_255, n_256, n_999, n_1000, n_104, nI_add, pk_mul, n_cl, n_inT, n_le, n_lt, n_eq, n_m1, n_m1', n_lem1, n_m1le, n_ltm1, n_m1lt, n_lepred, n_shl, fa_or, Nat.reduceAdd]
    refine ⟨hV, 255, by decide, rfl, fun σ1 g1 g2 g3 => ⟨hV.fs g3 (by decide), g1, fun σ2 k1 k2 k3 => ?_⟩⟩
    have hV2 := (hV.fs g3 (by decide)).fs k3 (by decide)
    have hcm : rc_cm 15 a 255 (ab_te a) (sm a (ab_te a) 0) σ2 := by
      refine ⟨fun h hh hb => ?_, 0, by decide, k2, fun h _ _ => ?_⟩
      · have e := g2 h hh hb
        obtain ⟨m1, m2, m3, m4⟩ := k1 h hh hb
        simp only [Nat.reduceAdd] at *
        rw [← k3 17 h (by decide) (by simp)] at e
        exact ⟨e, ab_te_3 hh, m1, m2, m3, m4⟩
      · show (0 : Nat).testBit h = false
        exact Nat.zero_testBit h
    refine ⟨hV2, 0, by omega, rfl, hcm, fun σ3 n1 n2 n3 => ?_⟩
    refine ⟨_, rfl, rfl, 0, by omega, hV2.fs n3 (by decide), ((hWe.fs g3 (by decide)).fs k3 (by decide)).fs n3 (by decide), (g1.fs k3 (by decide)).fs n3 (by decide), hcm.fs n3 (by decide), fun w i h hw hi hh => ?_, ?_, rfl, rfl⟩
    · rw [show i = 0 by omega]
      exact n1 w h hw hh
    · exact ((g3.mono (by decide) (by decide)).tr k3 (by decide) (by decide)).tr n3 (by decide) (by decide)
  · intro as σ0 Z h0 μ L S σ hI
    obtain ⟨rfl, rfl, k, hk, hV, hWe, hw, hcm, hq, hf, rfl, rfl⟩ := hI
    obtain ⟨-, -, -, hZ⟩ := x_f0 h0
    by_cases hlt : k < a 3 0
    · simp (disch := omega) only [b_So_tell_35, b_So_tell_24, b_So_tell_0, e_al0, e_il1, e_is1i, e_is1r, e_is1n, e_inc1i, e_inc1r, e_inc1n, e_c, e_i2, e_b2, e_gi, e_gr, e_ald, e_vr, e_cv2, e_hd, e_cv1, e_c10, e_c1i, e_c1r, e_sh0, e_sh1, e_sh2, e_sh3, e_sh4, e_tls, e_tln, e_tl0, e_tl1, cl_12, cl_13, ln_13, cl_14, cl_15, tg_12_0, tg_14_1, tg_14_2, q_Co_choose, q_Co_begin, q_So_note, q_Co_pass, Nat.reduceAdd, true_and, and_true, true_implies, not_true_eq_false, false_implies, not_false_eq_true, imp_self, forall_const, List.append_nil, ra_I, ra_J, ra_pad, true_or, or_true, Nat.reduceEqDiff, ra_bz, eq_self, if_true, if_false, false_and, and_false, Nat.zero_le, List.cons_append, List.nil_append, Nat.reduceLT, Nat.reduceLeDiff, Nat.reduceMul, Nat.reduceSub, n_0, n_1, n_2, n_3, n_4, n_5, n_6, n_7, n_8, n_9, n_10, n_12, n_40, n_48, n_57, n_59, n_72, n_99, n_102, n_103, n_107, n_108, n_192, n_255, n_256, n_999, n_1000, n_104, nI_add, pk_mul, n_cl, n_inT, n_le, n_lt, n_eq, n_m1, n_m1', n_lem1, n_m1le, n_ltm1, n_m1lt, n_lepred, n_shl, fa_or, hWe.1, hWe.2.1 k hlt]
      refine ⟨fun q => by omega, fun _ => ⟨hV, hWe, hcl, hw, k, by omega, rfl, hcm, fun σ1 g1 g2 => ?_⟩⟩
      have g2 : ra_fs [18, 19, 20, 21, 22] [(15, 10)] σ σ1 := g2
      refine ⟨hV.fs g2 (by decide), k + 1, by omega, rfl, g1, fun σ2 n1 n2 n3 => ?_⟩
      refine ⟨(a 3 0 - (k + 1), 0, 0), lx1 (by omega), rfl, rfl, k + 1, by omega, (hV.fs g2 (by decide)).fs n3 (by decide), (hWe.fs g2 (by decide)).fs n3 (by decide), (hw.fs g2 (by decide)).fs n3 (by decide), g1.fs n3 (by decide), fun w i h hw hi hh => ?_, (hf.tr g2 (by decide) (by decide)).tr n3 (by decide) (by decide), rfl, rfl⟩
      rcases (show i ≤ k ∨ i = k + 1 by omega) with z | rfl
      · rw [n2 w _ hw (by omega), ← hq w i h hw z hh]
        exact congrFun (g2.cell (cells := [24, 25, 26, 27]) (slots := []) (by decide) (by simp; omega)) _
      · exact n1 w h hw hh
    · simp (disch := omega) only [b_So_tell_64, b_So_tell_24, b_So_tell_0, e_al0, e_il1, e_is1i, e_is1r, e_is1n, e_inc1i, e_inc1r, e_inc1n, e_c, e_i2, e_b2, e_gi, e_gr, e_ald, e_vr, e_cv2, e_hd, e_cv1, e_c10, e_c1i, e_c1r, e_sh0, e_sh1, e_sh2, e_sh3, e_sh4, e_tls, e_tln, e_tl0, e_tl1, cl_12, cl_13, ln_13, cl_14, cl_15, tg_12_0, tg_14_1, tg_14_2, q_Co_choose, q_Co_begin, q_So_note, q_Co_pass, Nat.reduceAdd, true_and, and_true, true_implies, not_true_eq_false, false_implies, not_false_eq_true, imp_self, forall_const, List.append_nil, ra_I, ra_J, ra_pad, true_or, or_true, Nat.reduceEqDiff, ra_bz, eq_self, if_true, if_false, false_and, and_false, Nat.zero_le, List.cons_append, List.nil_append, Nat.reduceLT, Nat.reduceLeDiff, Nat.reduceMul, Nat.reduceSub, n_0, n_1, n_2, n_3, n_4, n_5, n_6, n_7, n_8, n_9, n_10, n_12, n_40, n_48, n_57, n_59, n_72, n_99, n_102, n_103, n_107, n_108, n_192, n_255, n_256, n_999, n_1000, n_104, nI_add, pk_mul, n_cl, n_inT, n_le, n_lt, n_eq, n_m1, n_m1', n_lem1, n_m1le, n_ltm1, n_m1lt, n_lepred, n_shl, fa_or, hWe.1]
      exact ⟨fun _ => hZ σ (fun w i h hw hi hh => hq w i h hw (by omega) hh) hf, fun q => by omega⟩
theorem rc_I.sty {a : Ab} {b : Bb} {n : Nat} {σ σ' : ra_St} (h : rc_I a b n σ) (hf : ra_fs [16, 17, 18, 19, 20, 21, 22, 24, 25, 26, 27] [(14, 4), (15, 9), (15, 10)] σ σ') (hs : ∀ now, σ 1 11 + σ 12 4 = nI now → rc_S a now σ') : rc_I a b n σ' := by
  obtain ⟨h1, h2, h3, h4, h5, v, w, e', k, h6, h7, h8, h9, h10, h11, h12⟩ := h
  exact ⟨h1.fs hf (by decide), h2.fs hf (by decide), h3.fs hf (by decide), h4.fs hf (by decide), h5.fs hf (by decide), v, w, e', k, h6, h7.fs hf (by decide), hs _ (by rw [h7.1, h7.2.1, nI_add]), h9.fs hf (by decide), h10.fs hf (by decide), h11.fs hf (by decide), h12.fs hf (by decide)⟩
def sp_So_rowOf (a : Ab) (b : Bb) (n : Nat) : ra_Sp := ra_f1 14 (fun x σ Z => rc_I a b n σ ∧ an_in x 3 ∧ ∀ σ', rc_I a b n σ' → rs_S a σ' → ra_up σ σ' → Z (some (.ref (24 + x.toNatClampNeg))) σ')
theorem q_So_rowOf {a : Ab} {b : Bb} {n : Nat} {oo : Nat} {x : Int32} {σ : ra_St} {Z : ra_R} : sp_So_rowOf a b n [.ref oo, .int x] σ Z = (oo = 14 ∧ (rc_I a b n σ ∧ an_in x 3 ∧ ∀ σ', rc_I a b n σ' → rs_S a σ' → ra_up σ σ' → Z (some (.ref (24 + x.toNatClampNeg))) σ')) := rfl
theorem k_So_rowOf {l : Launch} {X : ra_X} {a : Ab} {b : Bb} {n : Nat} (hn : n < 1000000000) (hW : ab_W a) : ra_MOK l X mi_So_rowOf (sp_So_rowOf a b n) := by
  refine g_So_rowOf (k_So_tell hW) (sp_So_rowOf a b n) ?_
  intro as σ Z _ _ h
  obtain ⟨x, rfl, hI, hx, hZ⟩ := x_f1 h
  obtain ⟨x, hx2, rfl⟩ := an_in_of hx (by decide)
  rw [n_cl (by omega)] at hZ
  have hr12 := hW.2.2.2.2.1
  obtain ⟨h1, h2, h3, h4, h5, v, w, e', k, h6, h7, h8, h9, h10, h11, h12⟩ := id hI
  have en : σ 1 11 + σ 12 4 = nI (v + w) := by rw [h7.1, h7.2.1, nI_add]
  obtain ⟨t1, t2, t3⟩ := tg_s x (by omega)
  simp (disch := omega) only [b_So_rowOf_33, b_So_rowOf_24, b_So_rowOf_0, e_al0, e_il1, e_il2, e_is2i, e_is2r, e_is2n, e_i2, e_b2, e_gi, e_gr, e_pi, e_rld, e_ar, e_cv1, e_hd, e_c10, e_c1i, e_c1r, e_sh0, e_sh1, e_sh2, e_sh3, e_sh4, e_tls, e_tln, e_tl0, e_tl1, cl_1, cl_12, cl_14, cl_23, ln_23, tg_14_0, tg_14_1, tg_14_3, q_So_tell, Nat.reduceAdd, true_and, and_true, true_implies, not_true_eq_false, false_implies, not_false_eq_true, imp_self, forall_const, List.append_nil, ra_I, ra_J, ra_pad, true_or, or_true, Nat.reduceEqDiff, ra_bz, eq_self, if_true, if_false, false_and, and_false, Nat.zero_le, List.cons_append, List.nil_append, Nat.reduceLT, Nat.reduceLeDiff, Nat.reduceMul, Nat.reduceSub, n_0, n_1, n_2, n_3, n_4, n_5, n_6, n_7, n_8, n_9, n_10, n_12, n_40, n_48, n_57, n_59, n_72, n_99, n_102, n_103, n_107, n_108, n_192, n_255, n_256, n_999, n_1000, n_104, nI_add, pk_mul, n_cl, n_inT, n_le, n_lt, n_eq, n_m1, n_m1', n_lem1, n_m1le, n_ltm1, n_m1lt, n_lepred, n_shl, fa_or, en, t1, t2]
  refine ⟨fun q => hZ σ hI (h8.yes (by omega) q) ra_up.rf, fun q => ?_⟩
  have hf1 : ra_fs [16, 17, 18, 19, 20, 21, 22, 24, 25, 26, 27] [(14, 4), (15, 9), (15, 10)] σ (ra_sw σ 14 4 (nI (v + w))) := ra_fs.rf.sw (Or.inr (by decide))
  refine ⟨h1.fs hf1 (by decide), h2.fs hf1 (by decide), fun σ1 g1 g2 => ?_⟩
  have hf2 : ra_fs [16, 17, 18, 19, 20, 21, 22, 24, 25, 26, 27] [(14, 4), (15, 9), (15, 10)] σ σ1 := hf1.tr g2 (by decide) (by decide)
  refine hZ σ1 (hI.sty hf2 (fun now hnow => ?_)) g1 (hf2.hi (by decide))
  have e4 : σ1 14 4 = nI now := by
    rw [g2 14 4 (by decide) (by decide), ← hnow, en]
    simp [sw_at]
  unfold rc_S
  rw [e4]
  exact rc_st.now g1
def sp_R_behind (a : Ab) (b : Bb) (n : Nat) (w : Nat) : ra_Sp := ra_f3 0 (fun z x y σ Z => rc_I a b n σ ∧ w ≤ 3 ∧ z = nI w ∧ ∀ σ', rc_I a b n σ' → ra_up σ σ' → Z (some (.int (an_b a w x y))) σ')
theorem q_R_behind {a : Ab} {b : Bb} {n : Nat} {w : Nat} {oo : Nat} {z x y : Int32} {σ : ra_St} {Z : ra_R} : sp_R_behind a b n w [.ref oo, .int z, .int x, .int y] σ Z = (oo = 0 ∧ (rc_I a b n σ ∧ w ≤ 3 ∧ z = nI w ∧ ∀ σ', rc_I a b n σ' → ra_up σ σ' → Z (some (.int (an_b a w x y))) σ')) := rfl
theorem k_R_behind {l : Launch} {X : ra_X} {a : Ab} {b : Bb} {n : Nat} {w : Nat} (hn : n < 1000000000) (hW : ab_W a) : ra_MOK l X mi_R_behind (sp_R_behind a b n w) := by
  have h8 := ab_hc_8 a
  have hr12 := hW.2.2.2.2.1
  refine g_R_behind (k_R_isNoHouse (a := a)) k_R_isOutside (k_So_rowOf (b := b) hn hW) (sp_R_behind a b n w) ?_
  intro as σ Z _ _ h
  obtain ⟨_, x, y, rfl, hI, hw, rfl, hZ⟩ := x_f3 h
  by_cases hy : an_hs a x ∧ an_in y (a 3 0)
  · rw [an_b_yes hy] at hZ
    obtain ⟨x, hx2, rfl⟩ := an_hs_of hy.1
    obtain ⟨y, hy2, rfl⟩ := an_in_of hy.2 (by omega)
    rw [n_cl (by omega), n_cl (by omega)] at hZ
    obtain ⟨t1, t2, t3⟩ := tg_s w (by omega)
    simp (disch := omega) only [b_R_behind_26, b_R_behind_23, b_R_behind_8, b_R_behind_0, e_al0, e_il1, e_il3, e_il2, e_c, e_i2, e_b1, e_gi, e_gr, e_ald, e_ir, e_cs3, e_cv2, e_hd, e_c10, e_c1i, e_c1r, e_sh0, e_sh1, e_sh2, e_sh3, e_sh4, e_tls, e_tln, e_tl0, e_tl1, cl_0, cl_12, cl_14, tg_0_1, tg_0_2, q_R_isNoHouse, q_R_isOutside, q_So_rowOf, Nat.reduceAdd, true_and, and_true, true_implies, not_true_eq_false, false_implies, not_false_eq_true, imp_self, forall_const, List.append_nil, ra_I, ra_J, ra_pad, true_or, or_true, Nat.reduceEqDiff, ra_bz, eq_self, if_true, if_false, false_and, and_false, Nat.zero_le, List.cons_append, List.nil_append, Nat.reduceLT, Nat.reduceLeDiff, Nat.reduceMul, Nat.reduceSub, n_0, n_1, n_2, n_3, n_4, n_5, n_6, n_7, n_8, n_9, n_10, n_12, n_40, n_48, n_57, n_59, n_72, n_99, n_102, n_103, n_107, n_108, n_192, n_255, n_256, n_999, n_1000, n_104, nI_add, pk_mul, n_cl, n_inT, n_le, n_lt, n_eq, n_m1, n_m1', n_lem1, n_m1le, n_ltm1, n_m1lt, n_lepred, n_shl, fa_or, hI.2.1.1, t2, t3]
    refine ⟨hI.1, fun q => absurd hy.1 q, fun _ => ⟨fun q => absurd hy2 q, fun _ => ⟨hI, an_in_nI hw (by decide), fun σ1 g1 g2 g3 => ?_⟩⟩⟩
    rw [show y * 8 + x = 8 * y + x by omega, g2 w y x (by omega) hy2 hx2]
    exact hZ σ1 g1 g3
  · rw [an_b_no hy] at hZ
    have h9 := hZ σ hI ra_up.rf
    simp (disch := omega) only [b_R_behind_23, b_R_behind_8, b_R_behind_0, e_al0, e_il1, e_il3, e_il2, e_c, e_i2, e_b1, e_gi, e_gr, e_ald, e_ir, e_cs3, e_cv2, e_hd, e_c10, e_c1i, e_c1r, e_sh0, e_sh1, e_sh2, e_sh3, e_sh4, e_tls, e_tln, e_tl0, e_tl1, cl_0, cl_12, cl_14, tg_0_1, tg_0_2, q_R_isNoHouse, q_R_isOutside, q_So_rowOf, Nat.reduceAdd, true_and, and_true, true_implies, not_true_eq_false, false_implies, not_false_eq_true, imp_self, forall_const, List.append_nil, ra_I, ra_J, ra_pad, true_or, or_true, Nat.reduceEqDiff, ra_bz, eq_self, if_true, if_false, false_and, and_false, Nat.zero_le, List.cons_append, List.nil_append, Nat.reduceLT, Nat.reduceLeDiff, Nat.reduceMul, Nat.reduceSub, n_0, n_1, n_2, n_3, n_4, n_5, n_6, n_7, n_8, n_9, n_10, n_12, n_40, n_48, n_57, n_59, n_72, n_99, n_102, n_103, n_107, n_108, n_192, n_255, n_256, n_999, n_1000, n_104, nI_add, pk_mul, n_cl, n_inT, n_le, n_lt, n_eq, n_m1, n_m1', n_lem1, n_m1le, n_ltm1, n_m1lt, n_lepred, n_shl, fa_or, hI.2.1.1]
    exact ⟨hI.1, fun _ => h9, fun q => ⟨fun _ => h9, fun q2 => absurd ⟨Classical.not_not.mp q, Classical.not_not.mp q2⟩ hy⟩⟩
def sp_R_tiles (a : Ab) (b : Bb) (n : Nat) : ra_Sp := ra_f2 0 (fun x y σ Z => rc_I a b n σ ∧ ∀ σ', rc_I a b n σ' → ra_up σ σ' → Z (some (.int (an_b a 0 x y))) σ')
theorem q_R_tiles {a : Ab} {b : Bb} {n : Nat} {oo : Nat} {x y : Int32} {σ : ra_St} {Z : ra_R} : sp_R_tiles a b n [.ref oo, .int x, .int y] σ Z = (oo = 0 ∧ (rc_I a b n σ ∧ ∀ σ', rc_I a b n σ' → ra_up σ σ' → Z (some (.int (an_b a 0 x y))) σ')) := rfl
theorem k_R_tiles {l : Launch} {X : ra_X} {a : Ab} {b : Bb} {n : Nat} (hn : n < 1000000000) (hW : ab_W a) : ra_MOK l X mi_R_tiles (sp_R_tiles a b n) := by
  refine g_R_tiles (k_R_behind (b := b) (w := 0) hn hW) (sp_R_tiles a b n) ?_
  intro as σ Z _ _ h
  obtain ⟨x, y, rfl, hI, hZ⟩ := x_f2 h
  simp (disch := omega) only [b_R_tiles_0, e_al0, e_il1, e_il2, e_c, e_ir, e_cv4, e_hd, e_c10, e_c1i, e_c1r, e_sh0, e_sh1, e_sh2, e_sh3, e_sh4, e_tls, e_tln, e_tl0, e_tl1, cl_0, q_R_behind, Nat.reduceAdd, true_and, and_true, true_implies, not_true_eq_false, false_implies, not_false_eq_true, imp_self, forall_const, List.append_nil, ra_I, ra_J, ra_pad, true_or, or_true, Nat.reduceEqDiff, ra_bz, eq_self, if_true, if_false, false_and, and_false, Nat.zero_le, List.cons_append, List.nil_append, Nat.reduceLT, Nat.reduceLeDiff, Nat.reduceMul, Nat.reduceSub, n_0, n_1, n_2, n_3, n_4, n_5, n_6, n_7, n_8, n_9, n_10, n_12, n_40, n_48, n_57, n_59, n_72, n_99, n_102, n_103, n_107, n_108, n_192, n_255, n_256, n_999, n_1000, n_104, nI_add, pk_mul, n_cl, n_inT, n_le, n_lt, n_eq, n_m1, n_m1', n_lem1, n_m1le, n_ltm1, n_m1lt, n_lepred, n_shl, fa_or]
  exact ⟨hI, hZ⟩
def sp_R_purse (a : Ab) (b : Bb) (n : Nat) : ra_Sp := ra_f2 0 (fun x y σ Z => rc_I a b n σ ∧ ∀ σ', rc_I a b n σ' → ra_up σ σ' → Z (some (.int (an_b a 1 x y))) σ')
theorem q_R_purse {a : Ab} {b : Bb} {n : Nat} {oo : Nat} {x y : Int32} {σ : ra_St} {Z : ra_R} : sp_R_purse a b n [.ref oo, .int x, .int y] σ Z = (oo = 0 ∧ (rc_I a b n σ ∧ ∀ σ', rc_I a b n σ' → ra_up σ σ' → Z (some (.int (an_b a 1 x y))) σ')) := rfl
theorem k_R_purse {l : Launch} {X : ra_X} {a : Ab} {b : Bb} {n : Nat} (hn : n < 1000000000) (hW : ab_W a) : ra_MOK l X mi_R_purse (sp_R_purse a b n) := by
  refine g_R_purse (k_R_behind (b := b) (w := 1) hn hW) (sp_R_purse a b n) ?_
  intro as σ Z _ _ h
  obtain ⟨x, y, rfl, hI, hZ⟩ := x_f2 h
  simp (disch := omega) only [b_R_purse_0, e_al0, e_il1, e_il2, e_c, e_ir, e_cv4, e_hd, e_c10, e_c1i, e_c1r, e_sh0, e_sh1, e_sh2, e_sh3, e_sh4, e_tls, e_tln, e_tl0, e_tl1, cl_0, q_R_behind, Nat.reduceAdd, true_and, and_true, true_implies, not_true_eq_false, false_implies, not_false_eq_true, imp_self, forall_const, List.append_nil, ra_I, ra_J, ra_pad, true_or, or_true, Nat.reduceEqDiff, ra_bz, eq_self, if_true, if_false, false_and, and_false, Nat.zero_le, List.cons_append, List.nil_append, Nat.reduceLT, Nat.reduceLeDiff, Nat.reduceMul, Nat.reduceSub, n_0, n_1, n_2, n_3, n_4, n_5, n_6, n_7, n_8, n_9, n_10, n_12, n_40, n_48, n_57, n_59, n_72, n_99, n_102, n_103, n_107, n_108, n_192, n_255, n_256, n_999, n_1000, n_104, nI_add, pk_mul, n_cl, n_inT, n_le, n_lt, n_eq, n_m1, n_m1', n_lem1, n_m1le, n_ltm1, n_m1lt, n_lepred, n_shl, fa_or]
  exact ⟨hI, hZ⟩
def sp_R_harm (a : Ab) (b : Bb) (n : Nat) : ra_Sp := ra_f2 0 (fun x y σ Z => rc_I a b n σ ∧ ∀ σ', rc_I a b n σ' → ra_up σ σ' → Z (some (.int (an_b a 2 x y))) σ')
theorem q_R_harm {a : Ab} {b : Bb} {n : Nat} {oo : Nat} {x y : Int32} {σ : ra_St} {Z : ra_R} : sp_R_harm a b n [.ref oo, .int x, .int y] σ Z = (oo = 0 ∧ (rc_I a b n σ ∧ ∀ σ', rc_I a b n σ' → ra_up σ σ' → Z (some (.int (an_b a 2 x y))) σ')) := rfl
theorem k_R_harm {l : Launch} {X : ra_X} {a : Ab} {b : Bb} {n : Nat} (hn : n < 1000000000) (hW : ab_W a) : ra_MOK l X mi_R_harm (sp_R_harm a b n) := by
  refine g_R_harm (k_R_behind (b := b) (w := 2) hn hW) (sp_R_harm a b n) ?_
  intro as σ Z _ _ h
  obtain ⟨x, y, rfl, hI, hZ⟩ := x_f2 h
  simp (disch := omega) only [b_R_harm_0, e_al0, e_il1, e_il2, e_c, e_ir, e_cv4, e_hd, e_c10, e_c1i, e_c1r, e_sh0, e_sh1, e_sh2, e_sh3, e_sh4, e_tls, e_tln, e_tl0, e_tl1, cl_0, q_R_behind, Nat.reduceAdd, true_and, and_true, true_implies, not_true_eq_false, false_implies, not_false_eq_true, imp_self, forall_const, List.append_nil, ra_I, ra_J, ra_pad, true_or, or_true, Nat.reduceEqDiff, ra_bz, eq_self, if_true, if_false, false_and, and_false, Nat.zero_le, List.cons_append, List.nil_append, Nat.reduceLT, Nat.reduceLeDiff, Nat.reduceMul, Nat.reduceSub, n_0, n_1, n_2, n_3, n_4, n_5, n_6, n_7, n_8, n_9, n_10, n_12, n_40, n_48, n_57, n_59, n_72, n_99, n_102, n_103, n_107, n_108, n_192, n_255, n_256, n_999, n_1000, n_104, nI_add, pk_mul, n_cl, n_inT, n_le, n_lt, n_eq, n_m1, n_m1', n_lem1, n_m1le, n_ltm1, n_m1lt, n_lepred, n_shl, fa_or]
  exact ⟨hI, hZ⟩
def sp_R_laid (a : Ab) (b : Bb) (n : Nat) : ra_Sp := ra_f2 0 (fun x y σ Z => rc_I a b n σ ∧ ∀ σ', rc_I a b n σ' → ra_up σ σ' → Z (some (.int (an_b a 3 x y))) σ')
theorem q_R_laid {a : Ab} {b : Bb} {n : Nat} {oo : Nat} {x y : Int32} {σ : ra_St} {Z : ra_R} : sp_R_laid a b n [.ref oo, .int x, .int y] σ Z = (oo = 0 ∧ (rc_I a b n σ ∧ ∀ σ', rc_I a b n σ' → ra_up σ σ' → Z (some (.int (an_b a 3 x y))) σ')) := rfl
theorem k_R_laid {l : Launch} {X : ra_X} {a : Ab} {b : Bb} {n : Nat} (hn : n < 1000000000) (hW : ab_W a) : ra_MOK l X mi_R_laid (sp_R_laid a b n) := by
  refine g_R_laid (k_R_behind (b := b) (w := 3) hn hW) (sp_R_laid a b n) ?_
  intro as σ Z _ _ h
  obtain ⟨x, y, rfl, hI, hZ⟩ := x_f2 h
  simp (disch := omega) only [b_R_laid_0, e_al0, e_il1, e_il2, e_c, e_ir, e_cv4, e_hd, e_c10, e_c1i, e_c1r, e_sh0, e_sh1, e_sh2, e_sh3, e_sh4, e_tls, e_tln, e_tl0, e_tl1, cl_0, q_R_behind, Nat.reduceAdd, true_and, and_true, true_implies, not_true_eq_false, false_implies, not_false_eq_true, imp_self, forall_const, List.append_nil, ra_I, ra_J, ra_pad, true_or, or_true, Nat.reduceEqDiff, ra_bz, eq_self, if_true, if_false, false_and, and_false, Nat.zero_le, List.cons_append, List.nil_append, Nat.reduceLT, Nat.reduceLeDiff, Nat.reduceMul, Nat.reduceSub, n_0, n_1, n_2, n_3, n_4, n_5, n_6, n_7, n_8, n_9, n_10, n_12, n_40, n_48, n_57, n_59, n_72, n_99, n_102, n_103, n_107, n_108, n_192, n_255, n_256, n_999, n_1000, n_104, nI_add, pk_mul, n_cl, n_inT, n_le, n_lt, n_eq, n_m1, n_m1', n_lem1, n_m1le, n_ltm1, n_m1lt, n_lepred, n_shl, fa_or]
  exact ⟨hI, hZ⟩
