/-! the class: moods -/
theorem rc_I.mod {a : Ab} {b : Bb} {n : Nat} {σ σ' : ra_St} (h : rc_I a b n σ) (hf : ra_fs [30, 31, 32, 33, 34, 35, 36, 37, 38, 39, 40] [(29, 9), (29, 10), (28, 7)] σ σ') (hs : ∀ now, σ 1 11 + σ 12 4 = nI now → rc_M a now σ → rc_M a now σ') : rc_I a b n σ' := by
  obtain ⟨h1, h2, h3, h4, h5, v, w, e', k, h6, h7, h8, h9, h10, h11, h12⟩ := h
  exact ⟨h1.fs hf (by decide), h2.fs hf (by decide), h3.fs hf (by decide), h4.fs hf (by decide), h5.fs hf (by decide), v, w, e', k, h6, h7.fs hf (by decide), h8.fs hf (by decide), hs _ (by rw [h7.1, h7.2.1, nI_add]) h9, h10.fs hf (by decide), h11.fs hf (by decide), h12.fs hf (by decide)⟩
def sp_Mo_isTried (a : Ab) (b : Bb) (n : Nat) : ra_Sp := ra_f2 28 (fun x y σ Z => rc_I a b n σ ∧ ∃ h m : Nat, h < ab_hc a ∧ x = nI h ∧ y = nI m ∧ m ≤ 99 ∧ ∀ σ', rc_I a b n σ' → rs_M a σ' → ra_up σ σ' → (σ' 37 h = nI m → Z (some (.int (nI 1))) σ') ∧ (¬ σ' 37 h = nI m → Z (some (.int (nI 0))) σ'))
theorem q_Mo_isTried {a : Ab} {b : Bb} {n : Nat} {oo : Nat} {x y : Int32} {σ : ra_St} {Z : ra_R} : sp_Mo_isTried a b n [.ref oo, .int x, .int y] σ Z = (oo = 28 ∧ (rc_I a b n σ ∧ ∃ h m : Nat, h < ab_hc a ∧ x = nI h ∧ y = nI m ∧ m ≤ 99 ∧ ∀ σ', rc_I a b n σ' → rs_M a σ' → ra_up σ σ' → (σ' 37 h = nI m → Z (some (.int (nI 1))) σ') ∧ (¬ σ' 37 h = nI m → Z (some (.int (nI 0))) σ'))) := rfl
def I_Mo_isTried (a : Ab) (b : Bb) (n : Nat) (Z : ra_R) (as : List Value) (σ0 : ra_St) (t : Nat) (μ : ra_M) : ra_K := fun L S σ => S = [] ∧ ∃ h m i : Nat, as = [.ref 28, .int (nI h), .int (nI m)] ∧ h < ab_hc a ∧ m ≤ 99 ∧ i ≤ 8 ∧ ra_fs [37] [(28, 7)] σ0 σ ∧ σ 28 7 = σ0 1 11 + σ0 12 4 ∧ (∀ j, j < i → σ 37 j = -1) ∧ μ = (8 - i, 0, 0) ∧ L = [.ref 28, .int (nI h), .int (nI m), .int (σ0 1 11 + σ0 12 4), .int (nI i)]
theorem k_Mo_isTried {l : Launch} {X : ra_X} {a : Ab} {b : Bb} {n : Nat} (hn : n < 1000000000) (hW : ab_W a) : ra_MOK l X mi_Mo_isTried (sp_Mo_isTried a b n) := by
  have h8 := ab_hc_8 a
  have hr12 := hW.2.2.2.2.1
  refine g_Mo_isTried (sp_Mo_isTried a b n) (I_Mo_isTried a b n) ?_ ?_
  · intro as σ Z _ _ h0
    obtain ⟨_, _, rfl, hI, h, m, hh, rfl, rfl, hm, hZ⟩ := x_f2 h0
    obtain ⟨h1, h2, h3, h4, h5, v, w, e', k, h6, h7, hh8, h9, h10, h11, h12⟩ := id hI
    have en : σ 1 11 + σ 12 4 = nI (v + w) := by rw [h7.1, h7.2.1, nI_add]
    simp (disch := omega) only [b_Mo_isTried_68, b_Mo_isTried_67, b_Mo_isTried_63, b_Mo_isTried_53, b_Mo_isTried_39, b_Mo_isTried_32, b_Mo_isTried_24, b_Mo_isTried_0, e_al0, e_il1, e_il2, e_il4, e_il3, e_is4i, e_is4r, e_is4n, e_is3i, e_is3r, e_is3n, e_inc4i, e_inc4r, e_inc4n, e_c, e_i2, e_b2, e_gi, e_gr, e_pi, e_ald, e_ast, e_zr, cl_1, cl_12, cl_28, cl_37, ln_37, tg_28_0, tg_28_1, tg_28_3, Nat.reduceAdd, true_and, and_true, true_implies, not_true_eq_false, false_implies, not_false_eq_true, imp_self, forall_const, List.append_nil, ra_I, ra_J, ra_pad, true_or, or_true, Nat.reduceEqDiff, ra_bz, eq_self, if_true, if_false, false_and, and_false, Nat.zero_le, List.cons_append, List.nil_append, Nat.reduceLT, Nat.reduceLeDiff, Nat.reduceMul, Nat.reduceSub, n_0, n_1, n_2, n_3, n_4, n_5, n_6, n_7, n_8, n_9, n_10, n_12, n_40, n_48, n_57, n_59, n_72, n_99, n_102, n_103, n_107, n_108, n_192, n_255, n_256, n_999, n_1000, n_104, nI_add, pk_mul, n_cl, n_inT, n_le, n_lt, n_eq, n_m1, n_m1', n_lem1, n_m1le, n_ltm1, n_m1lt, n_lepred, n_shl, fa_or]
    refine ⟨fun q => ?_, fun q => ⟨_, rfl, h, m, 0, rfl, hh, hm, by omega, ra_fs.rf.sw (Or.inr (by decide)), by simp [sw_at], fun j hj => by omega, rfl, rfl⟩⟩
    exact hZ σ hI (h9.yes (by omega) (q.trans en)) ra_up.rf
  · intro as σ0 Z h0 μ L S σ hI
    obtain ⟨rfl, h, m, i, rfl, hh, hm, hi, hf, e7, hq, rfl, rfl⟩ := hI
    obtain ⟨_, _, e, hI0, h', m', hh', e1, e2, hm', hZ⟩ := x_f2 h0
    cases e
    rw [n_eq (by omega) (by omega)] at e1 e2
    subst e1
    subst e2
    by_cases hlt : i < 8
    · simp (disch := omega) only [b_Mo_isTried_68, b_Mo_isTried_67, b_Mo_isTried_63, b_Mo_isTried_39, b_Mo_isTried_32, b_Mo_isTried_24, b_Mo_isTried_0, e_al0, e_il1, e_il2, e_il4, e_il3, e_is4i, e_is4r, e_is4n, e_is3i, e_is3r, e_is3n, e_inc4i, e_inc4r, e_inc4n, e_c, e_i2, e_b2, e_gi, e_gr, e_pi, e_ald, e_ast, e_zr, cl_1, cl_12, cl_28, cl_37, ln_37, tg_28_0, tg_28_1, tg_28_3, Nat.reduceAdd, true_and, and_true, true_implies, not_true_eq_false, false_implies, not_false_eq_true, imp_self, forall_const, List.append_nil, ra_I, ra_J, ra_pad, true_or, or_true, Nat.reduceEqDiff, ra_bz, eq_self, if_true, if_false, false_and, and_false, Nat.zero_le, List.cons_append, List.nil_append, Nat.reduceLT, Nat.reduceLeDiff, Nat.reduceMul, Nat.reduceSub, n_0, n_1, n_2, n_3, n_4, n_5, n_6, n_7, n_8, n_9, n_10, n_12, n_40, n_48, n_57, n_59, n_72, n_99, n_102, n_103, n_107, n_108, n_192, n_255, n_256, n_999, n_1000, n_104, nI_add, pk_mul, n_cl, n_inT, n_le, n_lt, n_eq, n_m1, n_m1', n_lem1, n_m1le, n_ltm1, n_m1lt, n_lepred, n_shl, fa_or]
      refine ⟨fun q => by omega, fun _ => ⟨(8 - (i + 1), 0, 0), lx1 (by omega), rfl, h, m, i + 1, rfl, hh, hm, by omega, hf.sw (Or.inl (by decide)), by simpa [sw_at] using e7, fun j hj => ?_, rfl, rfl⟩⟩
      rw [sw_at, if_pos rfl]
      split
      · rfl
      · exact hq j (by omega)
    · simp (disch := omega) only [b_Mo_isTried_68, b_Mo_isTried_67, b_Mo_isTried_63, b_Mo_isTried_53, b_Mo_isTried_32, b_Mo_isTried_24, b_Mo_isTried_0, e_al0, e_il1, e_il2, e_il4, e_il3, e_is4i, e_is4r, e_is4n, e_is3i, e_is3r, e_is3n, e_inc4i, e_inc4r, e_inc4n, e_c, e_i2, e_b2, e_gi, e_gr, e_pi, e_ald, e_ast, e_zr, cl_1, cl_12, cl_28, cl_37, ln_37, tg_28_0, tg_28_1, tg_28_3, Nat.reduceAdd, true_and, and_true, true_implies, not_true_eq_false, false_implies, not_false_eq_true, imp_self, forall_const, List.append_nil, ra_I, ra_J, ra_pad, true_or, or_true, Nat.reduceEqDiff, ra_bz, eq_self, if_true, if_false, false_and, and_false, Nat.zero_le, List.cons_append, List.nil_append, Nat.reduceLT, Nat.reduceLeDiff, Nat.reduceMul, Nat.reduceSub, n_0, n_1, n_2, n_3, n_4, n_5, n_6, n_7, n_8, n_9, n_10, n_12, n_40, n_48, n_57, n_59, n_72, n_99, n_102, n_103, n_107, n_108, n_192, n_255, n_256, n_999, n_1000, n_104, nI_add, pk_mul, n_cl, n_inT, n_le, n_lt, n_eq, n_m1, n_m1', n_lem1, n_m1le, n_ltm1, n_m1lt, n_lepred, n_shl, fa_or]
      refine ⟨fun _ => ?_, fun q => by omega⟩
      have hM : rs_M a σ := fun j hj => Or.inl (hq j (by omega))
      have hI1 : rc_I a b n σ := hI0.mod (hf.mono (by decide) (by decide)) (fun now hnow _ => by
        unfold rc_M
        rw [e7, hnow]
        exact rc_st.now hM)
      exact hZ σ hI1 hM (hf.hi (by decide))
/-- dry among grudges, as looked up -/
def mt (a : Ab) (B most h t : Nat) (σ : ra_St) : Prop := ∃ D : Nat, D < 256 ∧ σ 40 (h * 4 + t) = nI D ∧ ∀ x, x < ab_hc a → B.testBit x = true → (D.testBit x = true ↔ (sm a (mg h t) (a 3 0)).2.2.1 x ≤ most)
def sp_Mo_passAmongGrudges (a : Ab) (B : Nat) : ra_Sp := ra_f3 28 (fun x y z σ Z => rc_V a σ ∧ rc_W a σ ∧ rc_cl a B ∧ rc_who 29 a B σ ∧ ∃ h t most : Nat, x = nI h ∧ y = nI t ∧ z = nI most ∧ h < ab_hc a ∧ B.testBit h = true ∧ t < 4 ∧ most ≤ 99 ∧ ∀ σ', mt a B most h t σ' → (∀ j, j ≠ h * 4 + t → σ' 40 j = σ 40 j) → ra_fs [31, 32, 33, 34, 35, 36, 40] [(29, 10)] σ σ' → Z none σ')
theorem q_Mo_passAmongGrudges {a : Ab} {B : Nat} {oo : Nat} {x y z : Int32} {σ : ra_St} {Z : ra_R} : sp_Mo_passAmongGrudges a B [.ref oo, .int x, .int y, .int z] σ Z = (oo = 28 ∧ (rc_V a σ ∧ rc_W a σ ∧ rc_cl a B ∧ rc_who 29 a B σ ∧ ∃ h t most : Nat, x = nI h ∧ y = nI t ∧ z = nI most ∧ h < ab_hc a ∧ B.testBit h = true ∧ t < 4 ∧ most ≤ 99 ∧ ∀ σ', mt a B most h t σ' → (∀ j, j ≠ h * 4 + t → σ' 40 j = σ 40 j) → ra_fs [31, 32, 33, 34, 35, 36, 40] [(29, 10)] σ σ' → Z none σ')) := rfl
def I_Mo_passAmongGrudges (a : Ab) (B : Nat) (Z : ra_R) (as : List Value) (σ0 : ra_St) (t : Nat) (μ : ra_M) : ra_K := fun L S σ => S = [] ∧ ∃ (h tt most i D : Nat) (u v : Value), as = [.ref 28, .int (nI h), .int (nI tt), .int (nI most)] ∧ h < ab_hc a ∧ B.testBit h = true ∧ tt < 4 ∧ most ≤ 99 ∧ rc_V a σ ∧ rc_W a σ ∧ rc_cl a B ∧ rc_who 29 a B σ ∧ ra_fs [31, 32, 33, 34, 35, 36] [(29, 10)] σ0 σ ∧ (∀ σ', mt a B most h tt σ' → (∀ j, j ≠ h * 4 + tt → σ' 40 j = σ0 40 j) → ra_fs [31, 32, 33, 34, 35, 36, 40] [(29, 10)] σ0 σ' → Z none σ') ∧
  match t with
  | 3 => i ≤ cw B (ab_hc a) ∧ (∀ j, j < ab_hc a → B.testBit j = true → cw B j < i → σ 31 j = nI 1) ∧ μ = (400 - i, 0, 0) ∧ L = [.ref 28, .int (nI h), .int (nI tt), .int (nI most), .int (nI i), u, v]
  | 60 => i ≤ a 3 0 ∧ rc_cm 29 a B (mg h tt) (sm a (mg h tt) i) σ ∧ μ = (200 - i, 0, 0) ∧ L = [.ref 28, .int (nI h), .int (nI tt), .int (nI most), .int (nI i), u, v]
  | _ => i ≤ cw B (ab_hc a) ∧ rc_cm 29 a B (mg h tt) (sm a (mg h tt) (a 3 0)) σ ∧ D < 256 ∧ (∀ x, x < ab_hc a → B.testBit x = true → (D.testBit x = true ↔ cw B x < i ∧ (sm a (mg h tt) (a 3 0)).2.2.1 x ≤ most)) ∧ μ = (100 - i, 0, 0) ∧ L = [.ref 28, .int (nI h), .int (nI tt), .int (nI most), .int (nI D), .int (nI i), v]
theorem k_Mo_passAmongGrudges {l : Launch} {X : ra_X} {a : Ab} {B : Nat} (hW : ab_W a) : ra_MOK l X mi_Mo_passAmongGrudges (sp_Mo_passAmongGrudges a B) := by
  have h8 := ab_hc_8 a
  have hc := cw_le B (ab_hc a)
  have hr12 := hW.2.2.2.2.1
  refine g_Mo_passAmongGrudges (c1 := fun as σ Z => ∃ q : Nat × Nat, True ∧ sp_Co_pass 29 a B (mg q.1 q.2) as σ Z) (k_Co_begin_29 (a := a) (B := B)) (ra_MOK_ex (fun q _ => k_Co_pass_29 hW)) (sp_Mo_passAmongGrudges a B) (I_Mo_passAmongGrudges a B) ?_ ?_ ?_ ?_
  · intro as σ Z _ _ h0
    obtain ⟨_, _, _, rfl, hV, hWe, hcl, hw, h, t, most, rfl, rfl, rfl, hh, hb, ht, hm, hZ⟩ := x_f3 h0
    simp (disch := omega) only [b_Mo_passAmongGrudges_158, b_Mo_passAmongGrudges_149, b_Mo_passAmongGrudges_148, b_Mo_passAmongGrudges_141, b_Mo_passAmongGrudges_113, b_Mo_passAmongGrudges_101, b_Mo_passAmongGrudges_95, b_Mo_passAmongGrudges_72, b_Mo_passAmongGrudges_60, b_Mo_passAmongGrudges_40, b_Mo_passAmongGrudges_15, b_Mo_passAmongGrudges_3, b_Mo_passAmongGrudges_0, e_al0, e_il1, e_il2, e_il4, e_il6, e_il5, e_il3, e_is4i, e_is4r, e_is4n, e_is6i, e_is6r, e_is6n, e_is5i, e_is5r, e_is5n, e_inc5i, e_inc5r, e_inc5n, e_inc4i, e_inc4r, e_inc4n, e_c, e_i2, e_b2, e_gi, e_gr, e_ald, e_ast, e_vr, e_cv2, e_hd, e_cv1, e_c10, e_c1i, e_c1r, e_sh0, e_sh1, e_sh2, e_sh3, e_sh4, e_tls, e_tln, e_tl0, e_tl1, cl_12, cl_13, ln_13, cl_28, cl_29, cl_30, ln_30, cl_31, ln_31, cl_34, ln_34, cl_40, ln_40, tg_12_0, tg_28_1, tg_28_2, tg_28_6, tg_29_2, tg_29_3, tg_29_6, q_Co_begin, q_Co_pass, Nat.reduceAdd, true_and, and_true, true_implies, not_true_eq_false, false_implies, not_false_eq_true, imp_self, forall_const, List.append_nil, ra_I, ra_J, ra_pad, true_or, or_true, Nat.reduceEqDiff, ra_bz, eq_self, if_true, if_false, false_and, and_false, Nat.zero_le, List.cons_append, List.nil_append, Nat.reduceLT, Nat.reduceLeDiff, Nat.reduceMul, Nat.reduceSub, n_0, n_1, n_2, n_3, n_4, n_5, n_6, n_7, n_8, n_9, n_10, n_12, n_40, n_48, n_57, n_59, n_72, n_99, n_102, n_103, n_107, n_108, n_192, n_255, n_256, n_999, n_1000, n_104, nI_add, pk_mul, n_cl, n_inT, n_le, n_lt, n_eq, n_m1, n_m1', n_lem1, n_m1le, n_ltm1, n_m1lt, n_lepred, n_shl, fa_or]
    exact ⟨_, rfl, h, t, most, 0, 0, _, _, rfl, hh, hb, ht, hm, hV, hWe, hcl, hw, ra_fs.rf, hZ, by omega, fun j _ _ hj => by omega, rfl, rfl⟩
  · -- 3
    intro as σ0 Z h0 μ L S σ hI
    obtain ⟨rfl, h, tt, most, i, D, u, v, rfl, hh, hb, ht, hm, hV, hWe, hcl, hw, hf, hZ, hi, hq, rfl, rfl⟩ := hI
    by_cases hlt : i < cw B (ab_hc a)
    · obtain ⟨j, hj, hjb, hji, hwj⟩ := hw.at hlt
      have hwj : σ 30 i = nI j := hwj
      simp (disch := omega) only [b_Mo_passAmongGrudges_158, b_Mo_passAmongGrudges_149, b_Mo_passAmongGrudges_148, b_Mo_passAmongGrudges_141, b_Mo_passAmongGrudges_113, b_Mo_passAmongGrudges_101, b_Mo_passAmongGrudges_95, b_Mo_passAmongGrudges_72, b_Mo_passAmongGrudges_60, b_Mo_passAmongGrudges_15, b_Mo_passAmongGrudges_3, b_Mo_passAmongGrudges_0, e_al0, e_il1, e_il2, e_il4, e_il6, e_il5, e_il3, e_is4i, e_is4r, e_is4n, e_is6i, e_is6r, e_is6n, e_is5i, e_is5r, e_is5n, e_inc5i, e_inc5r, e_inc5n, e_inc4i, e_inc4r, e_inc4n, e_c, e_i2, e_b2, e_gi, e_gr, e_ald, e_ast, e_vr, e_cv2, e_hd, e_cv1, e_c10, e_c1i, e_c1r, e_sh0, e_sh1, e_sh2, e_sh3, e_sh4, e_tls, e_tln, e_tl0, e_tl1, cl_12, cl_13, ln_13, cl_28, cl_29, cl_30, ln_30, cl_31, ln_31, cl_34, ln_34, cl_40, ln_40, tg_12_0, tg_28_1, tg_28_2, tg_28_6, tg_29_2, tg_29_3, tg_29_6, q_Co_begin, q_Co_pass, Nat.reduceAdd, true_and, and_true, true_implies, not_true_eq_false, false_implies, not_false_eq_true, imp_self, forall_const, List.append_nil, ra_I, ra_J, ra_pad, true_or, or_true, Nat.reduceEqDiff, ra_bz, eq_self, if_true, if_false, false_and, and_false, Nat.zero_le, List.cons_append, List.nil_append, Nat.reduceLT, Nat.reduceLeDiff, Nat.reduceMul, Nat.reduceSub, n_0, n_1, n_2, n_3, n_4, n_5, n_6, n_7, n_8, n_9, n_10, n_12, n_40, n_48, n_57, n_59, n_72, n_99, n_102, n_103, n_107, n_108, n_192, n_255, n_256, n_999, n_1000, n_104, nI_add, pk_mul, n_cl, n_inT, n_le, n_lt, n_eq, n_m1, n_m1', n_lem1, n_m1le, n_ltm1, n_m1lt, n_lepred, n_shl, fa_or, hw.1, hwj]
      have hf1 : ra_fs [31] [] σ (ra_sw σ 31 j (nI 1)) := ra_fs.rf.sw (Or.inl (by decide))
      refine ⟨fun q => by omega, fun _ => ⟨(400 - (i + 1), 0, 0), lx1 (by omega), rfl, h, tt, most, i + 1, D, u, v, rfl, hh, hb, ht, hm, hV.fs hf1 (by decide), hWe.fs hf1 (by decide), hcl, hw.fs hf1 (by decide), hf.tr hf1 (by decide) (by decide), hZ, by omega, fun p hp hpb hpi => ?_, rfl, rfl⟩⟩
      rw [sw_at, if_pos rfl]
      split
      · rfl
      · next e =>
        have e2 : ¬ cw B p = i := fun z => e (cw_inj hpb hjb (z.trans hji.symm))
        exact hq p hp hpb (by omega)
    · simp (disch := omega) only [b_Mo_passAmongGrudges_158, b_Mo_passAmongGrudges_149, b_Mo_passAmongGrudges_148, b_Mo_passAmongGrudges_141, b_Mo_passAmongGrudges_113, b_Mo_passAmongGrudges_101, b_Mo_passAmongGrudges_95, b_Mo_passAmongGrudges_72, b_Mo_passAmongGrudges_60, b_Mo_passAmongGrudges_40, b_Mo_passAmongGrudges_3, b_Mo_passAmongGrudges_0, e_al0, e_il1, e_il2, e_il4, e_il6, e_il5, e_il3, e_is4i, e_is4r, e_is4n, e_is6i, e_is6r, e_is6n, e_is5i, e_is5r, e_is5n, e_inc5i, e_inc5r, e_inc5n, e_inc4i, e_inc4r, e_inc4n, e_c, e_i2, e_b2, e_gi, e_gr, e_ald, e_ast, e_vr, e_cv2, e_hd, e_cv1, e_c10, e_c1i, e_c1r, e_sh0, e_sh1, e_sh2, e_sh3, e_sh4, e_tls, e_tln, e_tl0, e_tl1, cl_12, cl_13, ln_13, cl_28, cl_29, cl_30, ln_30, cl_31, ln_31, cl_34, ln_34, cl_40, ln_40, tg_12_0, tg_28_1, tg_28_2, tg_28_6, tg_29_2, tg_29_3, tg_29_6, q_Co_begin, q_Co_pass, Nat.reduceAdd, true_and, and_true, true_implies, not_true_eq_false, false_implies, not_false_eq_true, imp_self, forall_const, List.append_nil, ra_I, ra_J, ra_pad, true_or, or_true, Nat.reduceEqDiff, ra_bz, eq_self, if_true, if_false, false_and, and_false, Nat.zero_le, List.cons_append, List.nil_append, Nat.reduceLT, Nat.reduceLeDiff, Nat.reduceMul, Nat.reduceSub, n_0, n_1, n_2, n_3, n_4, n_5, n_6, n_7, n_8, n_9, n_10, n_12, n_40, n_48, n_57, n_59, n_72, n_99, n_102, n_103, n_107, n_108, n_192, n_255, n_256, n_999, n_1000, n_104, nI_add, pk_mul, n_cl, n_inT, n_le, n_lt, n_eq, n_m1, n_m1', n_lem1, n_m1le, n_ltm1, n_m1lt, n_lepred, n_shl, fa_or, hw.1, q_Co_begin]
      have hf1 : ra_fs [31] [] σ (ra_sw σ 31 h (nI tt)) := ra_fs.rf.sw (Or.inl (by decide))
      refine ⟨fun _ => ⟨hV.fs hf1 (by decide), hw.fs hf1 (by decide), fun σ2 g1 g2 g3 => ?_⟩, fun q => by omega⟩
      have g3 : ra_fs [32, 33, 34, 35] [(29, 10)] (ra_sw σ 31 h (nI tt)) σ2 := g3
      have hV2 := (hV.fs hf1 (by decide)).fs g3 (by decide)
      have hWe2 := (hWe.fs hf1 (by decide)).fs g3 (by decide)
      have hw2 := (hw.fs hf1 (by decide)).fs g3 (by decide)
      refine ⟨(200 - 0, 0, 0), lx1 (by omega), rfl, h, tt, most, 0, D, _, v, rfl, hh, hb, ht, hm, hV2, hWe2, hcl, hw2, (hf.tr hf1 (by decide) (by decide)).tr g3 (by decide) (by decide), hZ, by omega, ⟨fun p hp hpb => ?_, 0, by decide, g2, fun p _ _ => ?_⟩, rfl, rfl⟩
      · obtain ⟨m1, m2, m3, m4⟩ := g1 p hp hpb
        simp only [Nat.reduceAdd] at m1 m2 m3 m4 ⊢
        have e31 : σ2 31 p = nI (mg h tt p) := by
          rw [g3 31 p (by decide) (by simp), sw_at, if_pos rfl]
          unfold mg
          by_cases e : p = h
          · rw [if_pos e, if_pos e]
          · rw [if_neg e, if_neg e]
            have := cw_lt hp hpb
            exact hq p hp hpb (by omega)
        refine ⟨e31, ?_, m1, m2, m3, m4⟩
        unfold mg
        split <;> omega
      · exact Nat.zero_testBit p
  · -- 60
    intro as σ0 Z h0 μ L S σ hI
    obtain ⟨rfl, h, tt, most, i, D, u, v, rfl, hh, hb, ht, hm, hV, hWe, hcl, hw, hf, hZ, hi, hcm, rfl, rfl⟩ := hI
    by_cases hlt : i < a 3 0
    · simp (disch := omega) only [b_Mo_passAmongGrudges_158, b_Mo_passAmongGrudges_149, b_Mo_passAmongGrudges_148, b_Mo_passAmongGrudges_141, b_Mo_passAmongGrudges_113, b_Mo_passAmongGrudges_101, b_Mo_passAmongGrudges_72, b_Mo_passAmongGrudges_60, b_Mo_passAmongGrudges_40, b_Mo_passAmongGrudges_15, b_Mo_passAmongGrudges_3, b_Mo_passAmongGrudges_0, e_al0, e_il1, e_il2, e_il4, e_il6, e_il5, e_il3, e_is4i, e_is4r, e_is4n, e_is6i, e_is6r, e_is6n, e_is5i, e_is5r, e_is5n, e_inc5i, e_inc5r, e_inc5n, e_inc4i, e_inc4r, e_inc4n, e_c, e_i2, e_b2, e_gi, e_gr, e_ald, e_ast, e_vr, e_cv2, e_hd, e_cv1, e_c10, e_c1i, e_c1r, e_sh0, e_sh1, e_sh2, e_sh3, e_sh4, e_tls, e_tln, e_tl0, e_tl1, cl_12, cl_13, ln_13, cl_28, cl_29, cl_30, ln_30, cl_31, ln_31, cl_34, ln_34, cl_40, ln_40, tg_12_0, tg_28_1, tg_28_2, tg_28_6, tg_29_2, tg_29_3, tg_29_6, q_Co_begin, q_Co_pass, Nat.reduceAdd, true_and, and_true, true_implies, not_true_eq_false, false_implies, not_false_eq_true, imp_self, forall_const, List.append_nil, ra_I, ra_J, ra_pad, true_or, or_true, Nat.reduceEqDiff, ra_bz, eq_self, if_true, if_false, false_and, and_false, Nat.zero_le, List.cons_append, List.nil_append, Nat.reduceLT, Nat.reduceLeDiff, Nat.reduceMul, Nat.reduceSub, n_0, n_1, n_2, n_3, n_4, n_5, n_6, n_7, n_8, n_9, n_10, n_12, n_40, n_48, n_57, n_59, n_72, n_99, n_102, n_103, n_107, n_108, n_192, n_255, n_256, n_999, n_1000, n_104, nI_add, pk_mul, n_cl, n_inT, n_le, n_lt, n_eq, n_m1, n_m1', n_lem1, n_m1le, n_ltm1, n_m1lt, n_lepred, n_shl, fa_or, hWe.1, hWe.2.1 i hlt, q_Co_pass]
      refine ⟨fun q => by omega, fun _ => ⟨(h, tt), hV, hWe, hcl, hw, i, by omega, rfl, hcm, fun σ2 g1 g2 => ?_⟩⟩
      have g2 : ra_fs [32, 33, 34, 35, 36] [(29, 10)] σ σ2 := g2
      exact ⟨(200 - (i + 1), 0, 0), lx1 (by omega), rfl, h, tt, most, i + 1, D, u, v, rfl, hh, hb, ht, hm, hV.fs g2 (by decide), hWe.fs g2 (by decide), hcl, hw.fs g2 (by decide), hf.tr g2 (by decide) (by decide), hZ, by omega, g1, rfl, rfl⟩
    · simp (disch := omega) only [b_Mo_passAmongGrudges_158, b_Mo_passAmongGrudges_149, b_Mo_passAmongGrudges_148, b_Mo_passAmongGrudges_141, b_Mo_passAmongGrudges_113, b_Mo_passAmongGrudges_101, b_Mo_passAmongGrudges_95, b_Mo_passAmongGrudges_60, b_Mo_passAmongGrudges_40, b_Mo_passAmongGrudges_15, b_Mo_passAmongGrudges_3, b_Mo_passAmongGrudges_0, e_al0, e_il1, e_il2, e_il4, e_il6, e_il5, e_il3, e_is4i, e_is4r, e_is4n, e_is6i, e_is6r, e_is6n, e_is5i, e_is5r, e_is5n, e_inc5i, e_inc5r, e_inc5n, e_inc4i, e_inc4r, e_inc4n, e_c, e_i2, e_b2, e_gi, e_gr, e_ald, e_ast, e_vr, e_cv2, e_hd, e_cv1, e_c10, e_c1i, e_c1r, e_sh0, e_sh1, e_sh2, e_sh3, e_sh4, e_tls, e_tln, e_tl0, e_tl1, cl_12, cl_13, ln_13, cl_28, cl_29, cl_30, ln_30, cl_31, ln_31, cl_34, ln_34, cl_40, ln_40, tg_12_0, tg_28_1, tg_28_2, tg_28_6, tg_29_2, tg_29_3, tg_29_6, q_Co_begin, q_Co_pass, Nat.reduceAdd, true_and, and_true, true_implies, not_true_eq_false, false_implies, not_false_eq_true, imp_self, forall_const, List.append_nil, ra_I, ra_J, ra_pad, true_or, or_true, Nat.reduceEqDiff, ra_bz, eq_self, if_true, if_false, false_and, and_false, Nat.zero_le, List.cons_append, List.nil_append, Nat.reduceLT, Nat.reduceLeDiff, Nat.reduceMul, Nat.reduceSub, n_0, n_1, n_2, n_3, n_4, n_5, n_6, n_7, n_8, n_9, n_10, n_12, n_40, n_48, n_57, n_59, n_72, n_99, n_102, n_103, n_107, n_108, n_192, n_255, n_256, n_999, n_1000, n_104, nI_add, pk_mul, n_cl, n_inT, n_le, n_lt, n_eq, n_m1, n_m1', n_lem1, n_m1le, n_ltm1, n_m1lt, n_lepred, n_shl, fa_or, hWe.1]
      refine ⟨fun _ => ⟨(100 - 0, 0, 0), lx1 (by omega), rfl, h, tt, most, 0, 0, u, v, rfl, hh, hb, ht, hm, hV, hWe, hcl, hw, hf, hZ, by omega, ?_, by omega, fun x hx hxb => ?_, rfl, rfl⟩, fun q => by omega⟩
      · rw [← show i = a 3 0 by omega]
        exact hcm
      · rw [Nat.zero_testBit]
        exact ⟨fun z => absurd z (by decide), fun z => by omega⟩
  · -- 101
    intro as σ0 Z h0 μ L S σ hI
    obtain ⟨rfl, h, tt, most, i, D, u, v, rfl, hh, hb, ht, hm, hV, hWe, hcl, hw, hf, hZ, hi, hcm, hD, hq, rfl, rfl⟩ := hI
    by_cases hlt : i < cw B (ab_hc a)
    · obtain ⟨j, hj, hjb, hji, hwj⟩ := hw.at hlt
      have hwj : σ 30 i = nI j := hwj
      have e34 : σ 34 j = nI ((sm a (mg h tt) (a 3 0)).2.2.1 j) := (hcm.1 j hj hjb).2.2.2.2.1
      have b3 := (sm_bd hW (mg h tt) (a 3 0) j hj).2.2.1
      have fin : ∀ (D' : Nat) (v' : Value), D' < 256 → (∀ x, x < ab_hc a → B.testBit x = true → (D'.testBit x = true ↔ cw B x < i + 1 ∧ (sm a (mg h tt) (a 3 0)).2.2.1 x ≤ most)) → ∃ μ', ra_lx μ' (100 - i, 0, 0) ∧ I_Mo_passAmongGrudges a B Z [.ref 28, .int (nI h), .int (nI tt), .int (nI most)] σ0 101 μ' [.ref 28, .int (nI h), .int (nI tt), .int (nI most), .int (nI D'), .int (nI (i + 1)), v'] [] σ := by
        intro D' v' y1 y2
        exact ⟨(100 - (i + 1), 0, 0), lx1 (by omega), rfl, h, tt, most, i + 1, D', u, v', rfl, hh, hb, ht, hm, hV, hWe, hcl, hw, hf, hZ, by omega, hcm, y1, y2, rfl, rfl⟩
      have ne : ∀ x, B.testBit x = true → x ≠ j → (cw B x < i + 1 ↔ cw B x < i) := by
        intro x hxb hne
        have e2 : ¬ cw B x = i := fun z => hne (cw_inj hxb hjb (z.trans hji.symm))
        omega
      simp (disch := omega) only [b_Mo_passAmongGrudges_149, b_Mo_passAmongGrudges_148, b_Mo_passAmongGrudges_141, b_Mo_passAmongGrudges_113, b_Mo_passAmongGrudges_101, b_Mo_passAmongGrudges_95, b_Mo_passAmongGrudges_72, b_Mo_passAmongGrudges_60, b_Mo_passAmongGrudges_40, b_Mo_passAmongGrudges_15, b_Mo_passAmongGrudges_3, b_Mo_passAmongGrudges_0, e_al0, e_il1, e_il2, e_il4, e_il6, e_il5, e_il3, e_is4i, e_is4r, e_is4n, e_is6i, e_is6r, e_is6n, e_is5i, e_is5r, e_is5n, e_inc5i, e_inc5r, e_inc5n, e_inc4i, e_inc4r, e_inc4n, e_c, e_i2, e_b2, e_gi, e_gr, e_ald, e_ast, e_vr, e_cv2, e_hd, e_cv1, e_c10, e_c1i, e_c1r, e_sh0, e_sh1, e_sh2, e_sh3, e_sh4, e_tls, e_tln, e_tl0, e_tl1, cl_12, cl_13, ln_13, cl_28, cl_29, cl_30, ln_30, cl_31, ln_31, cl_34, ln_34, cl_40, ln_40, tg_12_0, tg_28_1, tg_28_2, tg_28_6, tg_29_2, tg_29_3, tg_29_6, q_Co_begin, q_Co_pass, Nat.reduceAdd, true_and, and_true, true_implies, not_true_eq_false, false_implies, not_false_eq_true, imp_self, forall_const, List.append_nil, ra_I, ra_J, ra_pad, true_or, or_true, Nat.reduceEqDiff, ra_bz, eq_self, if_true, if_false, false_and, and_false, Nat.zero_le, List.cons_append, List.nil_append, Nat.reduceLT, Nat.reduceLeDiff, Nat.reduceMul, Nat.reduceSub, n_0, n_1, n_2, n_3, n_4, n_5, n_6, n_7, n_8, n_9, n_10, n_12, n_40, n_48, n_57, n_59, n_72, n_99, n_102, n_103, n_107, n_108, n_192, n_255, n_256, n_999, n_1000, n_104, nI_add, pk_mul, n_cl, n_inT, n_le, n_lt, n_eq, n_m1, n_m1', n_lem1, n_m1le, n_ltm1, n_m1lt, n_lepred, n_shl, fa_or, hw.1, hwj, e34]
      refine ⟨fun q => by omega, fun _ => ⟨fun q => fin _ _ ?_ (fun x hx hxb => ?_), fun q => fin _ _ ?_ (fun x hx hxb => ?_)⟩⟩
      · simpa using hD
      · rw [Nat.or_zero]
        by_cases e : x = j
        · subst e
          rw [hq x hx hxb]
          exact ⟨fun z => by omega, fun z => by omega⟩
        · rw [hq x hx hxb, ne x hxb e]
      · exact Nat.or_lt_two_pow (n := 8) hD (Nat.pow_lt_pow_right (by decide) (by omega))
      · rw [n_tb_or, Bool.or_eq_true, hq x hx hxb, decide_eq_true_eq]
        by_cases e : x = j
        · subst e
          exact ⟨fun _ => by omega, fun _ => Or.inr rfl⟩
        · rw [ne x hxb e]
          exact ⟨fun z => z.resolve_right e, fun z => Or.inl z⟩
    · simp (disch := omega) only [b_Mo_passAmongGrudges_158, b_Mo_passAmongGrudges_149, b_Mo_passAmongGrudges_148, b_Mo_passAmongGrudges_141, b_Mo_passAmongGrudges_101, b_Mo_passAmongGrudges_95, b_Mo_passAmongGrudges_72, b_Mo_passAmongGrudges_60, b_Mo_passAmongGrudges_40, b_Mo_passAmongGrudges_15, b_Mo_passAmongGrudges_3, b_Mo_passAmongGrudges_0, e_al0, e_il1, e_il2, e_il4, e_il6, e_il5, e_il3, e_is4i, e_is4r, e_is4n, e_is6i, e_is6r, e_is6n, e_is5i, e_is5r, e_is5n, e_inc5i, e_inc5r, e_inc5n, e_inc4i, e_inc4r, e_inc4n, e_c, e_i2, e_b2, e_gi, e_gr, e_ald, e_ast, e_vr, e_cv2, e_hd, e_cv1, e_c10, e_c1i, e_c1r, e_sh0, e_sh1, e_sh2, e_sh3, e_sh4, e_tls, e_tln, e_tl0, e_tl1, cl_12, cl_13, ln_13, cl_28, cl_29, cl_30, ln_30, cl_31, ln_31, cl_34, ln_34, cl_40, ln_40, tg_12_0, tg_28_1, tg_28_2, tg_28_6, tg_29_2, tg_29_3, tg_29_6, q_Co_begin, q_Co_pass, Nat.reduceAdd, true_and, and_true, true_implies, not_true_eq_false, false_implies, not_false_eq_true, imp_self, forall_const, List.append_nil, ra_I, ra_J, ra_pad, true_or, or_true, Nat.reduceEqDiff, ra_bz, eq_self, if_true, if_false, false_and, and_false, Nat.zero_le, List.cons_append, List.nil_append, Nat.reduceLT, Nat.reduceLeDiff, Nat.reduceMul, Nat.reduceSub, n_0, n_1, n_2, n_3, n_4, n_5, n_6, n_7, n_8, n_9, n_10, n_12, n_40, n_48, n_57, n_59, n_72, n_99, n_102, n_103, n_107, n_108, n_192, n_255, n_256, n_999, n_1000, n_104, nI_add, pk_mul, n_cl, n_inT, n_le, n_lt, n_eq, n_m1, n_m1', n_lem1, n_m1le, n_ltm1, n_m1lt, n_lepred, n_shl, fa_or, hw.1]
      refine ⟨fun _ => hZ _ ⟨D, hD, ?_, fun x hx hxb => ?_⟩ (fun j hj => ?_) ?_, fun q => by omega⟩
      · rw [sw_at, if_pos rfl, if_pos rfl]
      · rw [hq x hx hxb]
        have := cw_lt hx hxb
        exact ⟨fun z => z.2, fun z => ⟨by omega, z⟩⟩
      · rw [sw_at, if_pos rfl, if_neg hj]
        exact hf 40 j (by decide) (by simp)
      · exact (hf.mono (by decide) (by decide)).sw (Or.inl (by decide))
