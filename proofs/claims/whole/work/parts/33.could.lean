def kT (a : Ab) : Nat := if ab_hc a = 0 then (if fb_ct (fun k => decide (a 10 k = 1)) (a 7 0) = 0 then 1 else 0) else kW a (-1) (-1)
def sp_N_waysNow (a : Ab) : ra_Sp := ra_f0 82 (fun σ Z => rn_R a σ ∧ ∀ σ', rn_P a σ' → rn_may a σ' → ra_fr rn_scr σ σ' → Z (some (.int (nI (kT a)))) σ')
theorem q_N_waysNow {a : Ab} {oo : Nat} {σ : ra_St} {Z : ra_R} : sp_N_waysNow a [.ref oo] σ Z = (oo = 82 ∧ (rn_R a σ ∧ ∀ σ', rn_P a σ' → rn_may a σ' → ra_fr rn_scr σ σ' → Z (some (.int (nI (kT a)))) σ')) := rfl
def I_N_waysNow (a : Ab) (Z : ra_R) (as : List Value) (σ0 : ra_St) (t : Nat) (μ : ra_M) : ra_K := fun L S σ => S = [] ∧ as = [.ref 82] ∧ ∃ k s : Nat, rn_R a σ ∧ rn_P a σ ∧ rn_may a σ ∧ ra_fr rn_scr σ0 σ ∧ k ≤ a 7 0 ∧ s ≤ 1 ∧ (s = 0 ↔ fb_ct (fun k => decide (a 10 k = 1)) k = 0) ∧ μ = (a 7 0 - k, 0, 0) ∧ L = [.ref 82, .int (nI s), .int (nI k)]
theorem rn_may.fr {a : Ab} {σ σ' : ra_St} {cs : List Nat} (h : rn_may a σ) (hf : ra_fr cs σ σ') (hs : 106 ∉ cs) : rn_may a σ' := by
  unfold rn_may
  rw [hf.1 106 hs (by decide)]
  exact h
theorem k_N_waysNow {l : Launch} {X : ra_X} {a : Ab} (hW : ab_W a) : ra_MOK l X mi_N_waysNow (sp_N_waysNow a) := by
  have h8 := ab_hc_8 a
  have hf12 := hW.2.2.2.2.2.2.2.2.2.2.1
  refine g_N_waysNow (k_N_laysMay hW) (k_N_waysBy hW) (sp_N_waysNow a) (I_N_waysNow a) ?_ ?_
  · intro as σ Z _ _ h
    obtain ⟨rfl, hR, hZ⟩ := x_f0 h
    simp only [b_N_waysNow_67, b_N_waysNow_61, b_N_waysNow_57, b_N_waysNow_53, b_N_waysNow_49, b_N_waysNow_42, b_N_waysNow_35, b_N_waysNow_34, b_N_waysNow_30, b_N_waysNow_20, b_N_waysNow_16, b_N_waysNow_8, b_N_waysNow_0, e_al0, e_il1, e_il2, e_is1i, e_is1r, e_is1n, e_is2i, e_is2r, e_is2n, e_inc2i, e_inc2r, e_inc2n, e_c, e_b1, e_b2, e_gi, e_gr, e_ald, e_ir, e_cv3, e_hd, e_cv1, e_c10, e_c1i, e_c1r, e_sh0, e_sh1, e_sh2, e_sh3, e_sh4, e_tls, e_tln, e_tl0, e_tl1, cl_82, cl_105, ln_105, tg_82_25, q_N_laysMay, q_N_waysBy, Nat.reduceAdd, true_and, and_true, true_implies, not_true_eq_false, false_implies, not_false_eq_true, imp_self, forall_const, List.append_nil, ra_I, ra_J, ra_pad, true_or, or_true, Nat.reduceEqDiff, ra_bz, eq_self, if_true, if_false, false_and, and_false, Nat.zero_le, List.cons_append, List.nil_append, Nat.reduceLT, Nat.reduceLeDiff, Nat.reduceMul, Nat.reduceSub]
    exact ⟨hR, fun σ1 hP hm hf => ⟨_, rfl, rfl, 0, 0, hR.fr hf (by decide), hP, hm, hf, by omega, by omega, ⟨fun _ => rfl, fun _ => rfl⟩, rfl, rfl⟩⟩
  · intro as σ0 Z h0 μ L S σ hI
    obtain ⟨rfl, rfl, k, s, hR, hP, hm, hf, hk, hs1, hs, rfl, rfl⟩ := hI
    obtain ⟨-, hR0, hZ⟩ := x_f0 h0
    have next : ∀ s' : Nat, k < a 7 0 → s' ≤ 1 → (s' = 0 ↔ s = 0 ∧ a 10 k ≠ 1) → ∃ μ', ra_lx μ' (a 7 0 - k, 0, 0) ∧ I_N_waysNow a Z [.ref 82] σ0 8 μ' [.ref 82, .int (nI s'), .int (nI (k + 1))] [] σ := by
      intro s' h1 h2 h3
      refine ⟨(a 7 0 - (k + 1), 0, 0), lx1 (by omega), rfl, rfl, k + 1, s', hR, hP, hm, hf, by omega, h2, ?_, rfl, rfl⟩
      rw [h3, hs, fb_ct_succ]
      by_cases e : a 10 k = 1
      · simp [e]
      · simp [e]
    by_cases hlt : k < a 7 0
    · have b3 := hW.2.2.2.2.2.2.2.2.2.2.2.2.2 k
      simp (disch := omega) only [b_N_waysNow_67, b_N_waysNow_61, b_N_waysNow_57, b_N_waysNow_53, b_N_waysNow_49, b_N_waysNow_42, b_N_waysNow_35, b_N_waysNow_34, b_N_waysNow_30, b_N_waysNow_20, b_N_waysNow_16, b_N_waysNow_8, b_N_waysNow_0, e_al0, e_il1, e_il2, e_is1i, e_is1r, e_is1n, e_is2i, e_is2r, e_is2n, e_inc2i, e_inc2r, e_inc2n, e_c, e_b1, e_b2, e_gi, e_gr, e_ald, e_ir, e_cv3, e_hd, e_cv1, e_c10, e_c1i, e_c1r, e_sh0, e_sh1, e_sh2, e_sh3, e_sh4, e_tls, e_tln, e_tl0, e_tl1, cl_82, cl_105, ln_105, tg_82_25, q_N_laysMay, q_N_waysBy, Nat.reduceAdd, true_and, and_true, true_implies, not_true_eq_false, false_implies, not_false_eq_true, imp_self, forall_const, List.append_nil, ra_I, ra_J, ra_pad, true_or, or_true, Nat.reduceEqDiff, ra_bz, eq_self, if_true, if_false, false_and, and_false, Nat.zero_le, List.cons_append, List.nil_append, Nat.reduceLT, Nat.reduceLeDiff, Nat.reduceMul, Nat.reduceSub, n_0, n_1, n_2, n_3, n_4, n_5, n_6, n_7, n_8, n_9, n_10, n_12, n_40, n_48, n_57, n_59, n_72, n_99, n_102, n_103, n_107, n_108, n_192, n_255, n_256, n_999, n_1000, n_104, nI_add, pk_mul, n_cl, n_inT, n_le, n_lt, n_eq, n_m1, n_m1', n_lem1, n_m1le, n_ltm1, n_m1lt, n_lepred, n_shl, fa_or, hP.1.1, hR.2.2.2.2.2.2.1, (hR.2.2.2.2.2.2.2 k hlt).2.2]
      exact ⟨fun z => by omega, fun _ => ⟨fun z => ⟨fun z2 => next 1 hlt (by omega) (by omega), fun z2 => next 0 hlt (by omega) (by omega)⟩, fun z => next 1 hlt (by omega) (by omega)⟩⟩
    · have he : k = a 7 0 := by omega
      subst he
      simp (disch := omega) only [b_N_waysNow_67, b_N_waysNow_61, b_N_waysNow_57, b_N_waysNow_53, b_N_waysNow_49, b_N_waysNow_42, b_N_waysNow_35, b_N_waysNow_34, b_N_waysNow_30, b_N_waysNow_20, b_N_waysNow_8, b_N_waysNow_0, e_al0, e_il1, e_il2, e_is1i, e_is1r, e_is1n, e_is2i, e_is2r, e_is2n, e_inc2i, e_inc2r, e_inc2n, e_c, e_b1, e_b2, e_gi, e_gr, e_ald, e_ir, e_cv3, e_hd, e_cv1, e_c10, e_c1i, e_c1r, e_sh0, e_sh1, e_sh2, e_sh3, e_sh4, e_tls, e_tln, e_tl0, e_tl1, cl_82, cl_105, ln_105, tg_82_25, q_N_laysMay, q_N_waysBy, Nat.reduceAdd, true_and, and_true, true_implies, not_true_eq_false, false_implies, not_false_eq_true, imp_self, forall_const, List.append_nil, ra_I, ra_J, ra_pad, true_or, or_true, Nat.reduceEqDiff, ra_bz, eq_self, if_true, if_false, false_and, and_false, Nat.zero_le, List.cons_append, List.nil_append, Nat.reduceLT, Nat.reduceLeDiff, Nat.reduceMul, Nat.reduceSub, n_0, n_1, n_2, n_3, n_4, n_5, n_6, n_7, n_8, n_9, n_10, n_12, n_40, n_48, n_57, n_59, n_72, n_99, n_102, n_103, n_107, n_108, n_192, n_255, n_256, n_999, n_1000, n_104, nI_add, pk_mul, n_cl, n_inT, n_le, n_lt, n_eq, n_m1, n_m1', n_lem1, n_m1le, n_ltm1, n_m1lt, n_lepred, n_shl, fa_or, hP.1.1, hR.2.2.2.2.2.2.1]
      refine ⟨fun _ => ⟨fun z => ⟨fun z2 => ?_, fun z2 => ?_⟩, fun z => ⟨hR, hP, hm, fun σ' g1 g2 => ?_⟩⟩, fun z => by omega⟩
      · have h9 := hZ σ hP hm hf
        unfold kT at h9
        rw [if_pos z, if_pos (hs.mp z2)] at h9
        exact h9
      · have h9 := hZ σ hP hm hf
        unfold kT at h9
        rw [if_pos z, if_neg (fun y => z2 (hs.mpr y))] at h9
        exact h9
      · have h9 := hZ σ' (hP.fr g1 (by rw [g2, hP.1.1]) (by decide)) (hm.fr g1 (by decide)) (hf.tr g1 (by decide))
        unfold kT at h9
        rw [if_neg z] at h9
        exact h9
def kb (a : Ab) (x : Int32) : Nat → Nat
  | 0 => 0
  | r + 1 => if 0 < kW a x (nI r) then kb a x r ||| 2 ^ r else kb a x r
theorem kb_lt {a : Ab} {x : Int32} : ∀ r, kb a x r < 2 ^ r
  | 0 => Nat.zero_lt_one
  | r + 1 => by
    have h := kb_lt (a := a) (x := x) r
    have h2 : 2 ^ (r + 1) = 2 ^ r * 2 := Nat.pow_succ 2 r
    rw [kb]
    split
    · exact Nat.or_lt_two_pow (by omega) (by omega)
    · omega
theorem kW_lt (a : Ab) (x y : Int32) : kW a x y ≤ 16777216 := kF_lt (ab_hc_8 a) _
def an_co (a : Ab) (x : Int32) : Int32 := if x = -1 then nI (kT a) else nI (kb a x (ab_hc a))
def sp_N_couldOf (a : Ab) : ra_Sp := ra_f1 82 (fun x σ Z => rn_R a σ ∧ ∀ σ', rn_P a σ' → ra_fr rn_scr σ σ' → Z (some (.int (an_co a x))) σ')
theorem q_N_couldOf {a : Ab} {oo : Nat} {x : Int32} {σ : ra_St} {Z : ra_R} : sp_N_couldOf a [.ref oo, .int x] σ Z = (oo = 82 ∧ (rn_R a σ ∧ ∀ σ', rn_P a σ' → ra_fr rn_scr σ σ' → Z (some (.int (an_co a x))) σ')) := rfl
def I_N_couldOf (a : Ab) (Z : ra_R) (as : List Value) (σ0 : ra_St) (t : Nat) (μ : ra_M) : ra_K := fun L S σ => S = [] ∧ ∃ (x : Int32) (r : Nat), as = [.ref 82, .int x] ∧ rn_R a σ ∧ rn_P a σ ∧ rn_may a σ ∧ ra_fr rn_scr σ0 σ ∧ r ≤ ab_hc a ∧ (x = -1 → r = 0) ∧ μ = (ab_hc a - r, 0, 0) ∧ L = [.ref 82, .int x, .int (nI (kT a)), .int (nI (kb a x r)), .int (nI r)]
theorem k_N_couldOf {l : Launch} {X : ra_X} {a : Ab} (hW : ab_W a) : ra_MOK l X mi_N_couldOf (sp_N_couldOf a) := by
  have h8 := ab_hc_8 a
  refine g_N_couldOf (k_N_waysNow hW) (k_N_waysBy hW) (sp_N_couldOf a) (I_N_couldOf a) ?_ ?_
  · intro as σ Z _ _ h
    obtain ⟨x, rfl, hR, hZ⟩ := x_f1 h
    simp only [b_N_couldOf_61, b_N_couldOf_60, b_N_couldOf_56, b_N_couldOf_51, b_N_couldOf_43, b_N_couldOf_42, b_N_couldOf_35, b_N_couldOf_24, b_N_couldOf_19, b_N_couldOf_10, b_N_couldOf_0, e_il3, e_il2, e_il1, e_il4, e_al0, e_is3i, e_is3r, e_is3n, e_is2i, e_is2r, e_is2n, e_is4i, e_is4r, e_is4n, e_inc4i, e_inc4r, e_inc4n, e_c, e_i2, e_b1, e_b2, e_gi, e_ir, e_cv3, e_hd, e_cv1, e_c10, e_c1i, e_c1r, e_sh0, e_sh1, e_sh2, e_sh3, e_sh4, e_tls, e_tln, e_tl0, e_tl1, cl_82, q_N_waysNow, q_N_waysBy, Nat.reduceAdd, true_and, and_true, true_implies, not_true_eq_false, false_implies, not_false_eq_true, imp_self, forall_const, List.append_nil, ra_I, ra_J, ra_pad, true_or, or_true, Nat.reduceEqDiff, ra_bz, eq_self, if_true, if_false, false_and, and_false, Nat.zero_le, List.cons_append, List.nil_append, Nat.reduceLT, Nat.reduceLeDiff, Nat.reduceMul, Nat.reduceSub]
    exact ⟨hR, fun σ1 hP hm hf => ⟨_, rfl, x, 0, rfl, hR.fr hf (by decide), hP, hm, hf, by omega, fun _ => rfl, rfl, rfl⟩⟩
  · intro as σ0 Z h0 μ L S σ hI
    obtain ⟨rfl, x, r, rfl, hR, hP, hm, hf, hr, hx, rfl, rfl⟩ := hI
    obtain ⟨_, e, hR0, hZ⟩ := x_f1 h0
    cases e
    have h9 := hZ σ hP hf
    unfold an_co at h9
    have hkw := kW_lt a x (nI r)
    simp (disch := omega) only [b_N_couldOf_61, b_N_couldOf_60, b_N_couldOf_56, b_N_couldOf_51, b_N_couldOf_43, b_N_couldOf_42, b_N_couldOf_35, b_N_couldOf_24, b_N_couldOf_19, b_N_couldOf_10, b_N_couldOf_0, e_il3, e_il2, e_il1, e_il4, e_al0, e_is3i, e_is3r, e_is3n, e_is2i, e_is2r, e_is2n, e_is4i, e_is4r, e_is4n, e_inc4i, e_inc4r, e_inc4n, e_c, e_i2, e_b1, e_b2, e_gi, e_ir, e_cv3, e_hd, e_cv1, e_c10, e_c1i, e_c1r, e_sh0, e_sh1, e_sh2, e_sh3, e_sh4, e_tls, e_tln, e_tl0, e_tl1, cl_82, q_N_waysNow, q_N_waysBy, Nat.reduceAdd, true_and, and_true, true_implies, not_true_eq_false, false_implies, not_false_eq_true, imp_self, forall_const, List.append_nil, ra_I, ra_J, ra_pad, true_or, or_true, Nat.reduceEqDiff, ra_bz, eq_self, if_true, if_false, false_and, and_false, Nat.zero_le, List.cons_append, List.nil_append, Nat.reduceLT, Nat.reduceLeDiff, Nat.reduceMul, Nat.reduceSub, n_0, n_1, n_2, n_3, n_4, n_5, n_6, n_7, n_8, n_9, n_10, n_12, n_40, n_48, n_57, n_59, n_72, n_99, n_102, n_103, n_107, n_108, n_192, n_255, n_256, n_999, n_1000, n_104, nI_add, pk_mul, n_cl, n_inT, n_le, n_lt, n_eq, n_m1, n_m1', n_lem1, n_m1le, n_ltm1, n_m1lt, n_lepred, n_shl, fa_or, hP.1.1]
    have e1 : x = -1 → Z (some (.int (nI (kT a)))) σ := fun z => by rw [if_pos z] at h9; exact h9
    refine ⟨fun z => ⟨fun z2 => e1 z2, fun z2 => ?_⟩, fun z => ⟨fun z2 => ⟨fun _ => e1 z2, fun y => absurd z2 y⟩, fun z2 => ⟨hR, hP, hm, fun σ' g1 g2 => ?_⟩⟩⟩
    · rw [if_neg (show ¬ x = -1 from z2), show ab_hc a = r by omega] at h9
      exact h9
    · have step : ∀ y : Nat, y = kb a x (r + 1) → ∃ μ', ra_lx μ' (ab_hc a - r, 0, 0) ∧ I_N_couldOf a Z [.ref 82, .int x] σ0 10 μ' [.ref 82, .int x, .int (nI (kT a)), .int (nI y), .int (nI (r + 1))] [] σ' := by
        intro y hy
        rw [hy]
        exact ⟨(ab_hc a - (r + 1), 0, 0), lx1 (by omega), rfl, x, r + 1, rfl, hR.fr g1 (by decide), hP.fr g1 (by rw [g2, hP.1.1]) (by decide), hm.fr g1 (by decide), hf.tr g1 (by decide), by omega, fun y2 => absurd y2 z2, rfl, rfl⟩
      refine ⟨fun z3 => step _ ?_, fun z3 => ?_⟩
      · rw [kb, if_neg (by omega)]
        simp
      · refine step _ ?_
        rw [kb, if_pos (by omega)]
noncomputable def an_could (a : Ab) (x : Int32) : Int32 := by
  classical
  exact if an_hs a x ∨ x = -1 then an_co a x else -2
theorem an_could_yes {a : Ab} {x : Int32} (h : an_hs a x ∨ x = -1) : an_could a x = an_co a x := by
  unfold an_could
  exact if_pos h
theorem an_could_no {a : Ab} {x : Int32} (h : ¬ (an_hs a x ∨ x = -1)) : an_could a x = -2 := by
  unfold an_could
  exact if_neg h
def sp_N_could (a : Ab) : ra_Sp := ra_f1 82 (fun x σ Z => rn_R a σ ∧ ∀ σ', ra_fr rn_scr σ σ' → Z (some (.int (an_could a x))) σ')
theorem q_N_could {a : Ab} {oo : Nat} {x : Int32} {σ : ra_St} {Z : ra_R} : sp_N_could a [.ref oo, .int x] σ Z = (oo = 82 ∧ (rn_R a σ ∧ ∀ σ', ra_fr rn_scr σ σ' → Z (some (.int (an_could a x))) σ')) := rfl
theorem k_N_could {l : Launch} {X : ra_X} {a : Ab} (hW : ab_W a) : ra_MOK l X mi_N_could (sp_N_could a) := by
  refine g_N_could (k_N_isHouse hW) (k_N_couldOf hW) (sp_N_could a) ?_
  intro as σ Z _ _ h
  obtain ⟨x, rfl, hR, hZ⟩ := x_f1 h
  simp (disch := omega) only [b_N_could_23, b_N_could_21, b_N_could_13, b_N_could_5, b_N_could_0, e_al0, e_il1, e_c, e_b1, e_b2, e_ir, e_cv2, e_hd, e_c10, e_c1i, e_c1r, e_sh0, e_sh1, e_sh2, e_sh3, e_sh4, e_tls, e_tln, e_tl0, e_tl1, cl_82, q_N_isHouse, q_N_couldOf, Nat.reduceAdd, true_and, and_true, true_implies, not_true_eq_false, false_implies, not_false_eq_true, imp_self, forall_const, List.append_nil, ra_I, ra_J, ra_pad, true_or, or_true, Nat.reduceEqDiff, ra_bz, eq_self, if_true, if_false, false_and, and_false, Nat.zero_le, List.cons_append, List.nil_append, Nat.reduceLT, Nat.reduceLeDiff, Nat.reduceMul, Nat.reduceSub, n_0, n_1, n_2, n_3, n_4, n_5, n_6, n_7, n_8, n_9, n_10, n_12, n_40, n_48, n_57, n_59, n_72, n_99, n_102, n_103, n_107, n_108, n_192, n_255, n_256, n_999, n_1000, n_104, nI_add, pk_mul, n_cl, n_in, n_le, n_lt, n_eq, n_m1, n_m1', n_lem1, n_m1le, n_ltm1, n_m1lt, n_lepred, n_shl, fa_or]
  have yes : ∀ σ0, ra_fr rn_scr σ σ0 → (an_hs a x ∨ x = -1) → ∀ σ', rn_P a σ' → ra_fr rn_scr σ0 σ' → Z (some (.int (an_co a x))) σ' := by
    intro σ0 g0 q σ' g1 g2
    have h9 := hZ σ' (g0.tr g2 (by decide))
    rw [an_could_yes q] at h9
    exact h9
  refine ⟨fun q => ⟨hR, yes σ ra_fr.rf (Or.inr q)⟩, fun q => ⟨hR.1, fun σ1 g1 g2 => ⟨fun q2 => ⟨hR.fr g2 (by decide), yes σ1 (g2.mono (by decide)) (Or.inl q2)⟩, fun q2 => ?_⟩⟩⟩
  have h9 := hZ σ1 (g2.mono (by decide))
  rw [an_could_no (fun z => by
    rcases z with z | z
    · exact q2 z
    · exact q z)] at h9
  exact h9
def kwo (a : Ab) (h : Nat) : Nat → Nat
  | 0 => 0
  | r + 1 => if kwo a h r < kW a (nI h) (nI r) then kW a (nI h) (nI r) else kwo a h r
theorem kwo_lt (a : Ab) (h : Nat) : ∀ r, kwo a h r ≤ 16777216
  | 0 => Nat.zero_le _
  | r + 1 => by
    rw [kwo]
    split
    · exact kW_lt _ _ _
    · exact kwo_lt a h r
def kbi (a : Ab) : Nat → Nat × Nat
  | 0 => (0, 0)
  | h + 1 => if h = 0 ∨ kwo a h (ab_hc a) < (kbi a h).2 then (h, kwo a h (ab_hc a)) else kbi a h
theorem kbi_lt (a : Ab) : ∀ h, (kbi a h).2 ≤ 16777216 ∧ (kbi a h).1 ≤ h
  | 0 => ⟨Nat.zero_le _, Nat.zero_le _⟩
  | h + 1 => by
    have := kbi_lt a h
    rw [kbi]
    split
    · exact ⟨kwo_lt _ _ _, by show h ≤ h + 1; omega⟩
    · exact ⟨this.1, by omega⟩
def an_as (a : Ab) (w : Int32) : Int32 := if kT a = 0 ∨ ab_hc a = 0 then -3 else if w = 0 then nI (kbi a (ab_hc a)).1 else nI (kbi a (ab_hc a)).2
def sp_N_askOf (a : Ab) : ra_Sp := ra_f1 82 (fun x σ Z => rn_R a σ ∧ ∀ σ', rn_P a σ' → ra_fr rn_scr σ σ' → Z (some (.int (an_as a x))) σ')
theorem q_N_askOf {a : Ab} {oo : Nat} {x : Int32} {σ : ra_St} {Z : ra_R} : sp_N_askOf a [.ref oo, .int x] σ Z = (oo = 82 ∧ (rn_R a σ ∧ ∀ σ', rn_P a σ' → ra_fr rn_scr σ σ' → Z (some (.int (an_as a x))) σ')) := rfl
def I_N_askOf (a : Ab) (Z : ra_R) (as : List Value) (σ0 : ra_St) (t : Nat) (μ : ra_M) : ra_K := fun L S σ => S = [] ∧ ∃ (x : Int32) (h r : Nat) (u v w : Value), as = [.ref 82, .int x] ∧ rn_R a σ ∧ rn_P a σ ∧ rn_may a σ ∧ ra_fr rn_scr σ0 σ ∧ h ≤ ab_hc a ∧ r ≤ ab_hc a ∧ ¬ (kT a = 0 ∨ ab_hc a = 0) ∧
  match t with
  | 24 => μ = (ab_hc a - h, 1, 0) ∧ L = [.ref 82, .int x, .int (if h = 0 then -1 else nI (kbi a h).1), .int (nI (kbi a h).2), .int (nI h), u, v, w]
  | _ => μ = (ab_hc a - h, 0, ab_hc a - r) ∧ h < ab_hc a ∧ L = [.ref 82, .int x, .int (if h = 0 then -1 else nI (kbi a h).1), .int (nI (kbi a h).2), .int (nI h), .int (nI (kwo a h r)), .int (nI r), w]
theorem k_N_askOf {l : Launch} {X : ra_X} {a : Ab} (hW : ab_W a) : ra_MOK l X mi_N_askOf (sp_N_askOf a) := by
  have h8 := ab_hc_8 a
  have hkt : kT a ≤ 16777216 := by
    unfold kT
    split
    · split <;> omega
    · exact kW_lt _ _ _
  refine g_N_askOf (k_N_waysNow hW) (k_N_waysBy hW) (sp_N_askOf a) (I_N_askOf a) ?_ ?_ ?_
  · intro as σ Z _ _ h
    obtain ⟨x, rfl, hR, hZ⟩ := x_f1 h
    simp (disch := omega) only [b_N_askOf_137, b_N_askOf_136, b_N_askOf_132, b_N_askOf_128, b_N_askOf_121, b_N_askOf_120, b_N_askOf_115, b_N_askOf_109, b_N_askOf_108, b_N_askOf_103, b_N_askOf_96, b_N_askOf_95, b_N_askOf_91, b_N_askOf_85, b_N_askOf_80, b_N_askOf_72, b_N_askOf_70, b_N_askOf_65, b_N_askOf_48, b_N_askOf_39, b_N_askOf_33, b_N_askOf_24, b_N_askOf_17, b_N_askOf_14, b_N_askOf_7, b_N_askOf_0, e_il3, e_il2, e_il1, e_il5, e_il6, e_il4, e_il7, e_al0, e_is3i, e_is3r, e_is3n, e_is2i, e_is2r, e_is2n, e_is6i, e_is6r, e_is6n, e_is5i, e_is5r, e_is5n, e_is7i, e_is7r, e_is7n, e_is4i, e_is4r, e_is4n, e_inc4i, e_inc4r, e_inc4n, e_inc6i, e_inc6r, e_inc6n, e_c, e_b1, e_b2, e_gi, e_ir, e_cv3, e_hd, e_cv1, e_c10, e_c1i, e_c1r, e_sh0, e_sh1, e_sh2, e_sh3, e_sh4, e_tls, e_tln, e_tl0, e_tl1, cl_82, q_N_waysNow, q_N_waysBy, Nat.reduceAdd, true_and, and_true, true_implies, not_true_eq_false, false_implies, not_false_eq_true, imp_self, forall_const, List.append_nil, ra_I, ra_J, ra_pad, true_or, or_true, Nat.reduceEqDiff, ra_bz, eq_self, if_true, if_false, false_and, and_false, Nat.zero_le, List.cons_append, List.nil_append, Nat.reduceLT, Nat.reduceLeDiff, Nat.reduceMul, Nat.reduceSub, n_0, n_1, n_2, n_3, n_4, n_5, n_6, n_7, n_8, n_9, n_10, n_12, n_40, n_48, n_57, n_59, n_72, n_99, n_102, n_103, n_107, n_108, n_192, n_255, n_256, n_999, n_1000, n_104, nI_add, pk_mul, n_cl, n_inT, n_le, n_lt, n_eq, n_m1, n_m1', n_lem1, n_m1le, n_ltm1, n_m1lt, n_lepred, n_shl, fa_or]
    refine ⟨hR, fun σ1 hP hm hf => ?_⟩
    have h9 := hZ σ1 hP hf
    unfold an_as at h9
    rw [hP.1.1, n_eq (by omega) (by omega)]
    refine ⟨fun z => ?_, fun z => ⟨fun z2 => ?_, fun z2 => ⟨_, rfl, x, 0, 0, _, _, _, rfl, hR.fr hf (by decide), hP, hm, hf, by omega, by omega, by omega, rfl, rfl⟩⟩⟩
    · rw [if_pos (Or.inl z)] at h9
      exact h9
    · rw [if_pos (Or.inr z2)] at h9
      exact h9
  · intro as σ0 Z h0 μ L S σ hI
    obtain ⟨rfl, x, h, r, u, v, w, rfl, hR, hP, hm, hf, hh, hr, hno, rfl, rfl⟩ := hI
    obtain ⟨_, e, hR0, hZ⟩ := x_f1 h0
    cases e
    have h9 := hZ σ hP hf
    unfold an_as at h9
    rw [if_neg hno] at h9
    simp (disch := omega) only [b_N_askOf_137, b_N_askOf_136, b_N_askOf_132, b_N_askOf_128, b_N_askOf_121, b_N_askOf_120, b_N_askOf_115, b_N_askOf_109, b_N_askOf_108, b_N_askOf_103, b_N_askOf_96, b_N_askOf_95, b_N_askOf_91, b_N_askOf_85, b_N_askOf_80, b_N_askOf_72, b_N_askOf_70, b_N_askOf_65, b_N_askOf_48, b_N_askOf_39, b_N_askOf_33, b_N_askOf_24, b_N_askOf_17, b_N_askOf_14, b_N_askOf_7, b_N_askOf_0, e_il3, e_il2, e_il1, e_il5, e_il6, e_il4, e_il7, e_al0, e_is3i, e_is3r, e_is3n, e_is2i, e_is2r, e_is2n, e_is6i, e_is6r, e_is6n, e_is5i, e_is5r, e_is5n, e_is7i, e_is7r, e_is7n, e_is4i, e_is4r, e_is4n, e_inc4i, e_inc4r, e_inc4n, e_inc6i, e_inc6r, e_inc6n, e_c, e_b1, e_b2, e_gi, e_ir, e_cv3, e_hd, e_cv1, e_c10, e_c1i, e_c1r, e_sh0, e_sh1, e_sh2, e_sh3, e_sh4, e_tls, e_tln, e_tl0, e_tl1, cl_82, q_N_waysNow, q_N_waysBy, Nat.reduceAdd, true_and, and_true, true_implies, not_true_eq_false, false_implies, not_false_eq_true, imp_self, forall_const, List.append_nil, ra_I, ra_J, ra_pad, true_or, or_true, Nat.reduceEqDiff, ra_bz, eq_self, if_true, if_false, false_and, and_false, Nat.zero_le, List.cons_append, List.nil_append, Nat.reduceLT, Nat.reduceLeDiff, Nat.reduceMul, Nat.reduceSub, n_0, n_1, n_2, n_3, n_4, n_5, n_6, n_7, n_8, n_9, n_10, n_12, n_40, n_48, n_57, n_59, n_72, n_99, n_102, n_103, n_107, n_108, n_192, n_255, n_256, n_999, n_1000, n_104, nI_add, pk_mul, n_cl, n_inT, n_le, n_lt, n_eq, n_m1, n_m1', n_lem1, n_m1le, n_ltm1, n_m1lt, n_lepred, n_shl, fa_or, hP.1.1]
    refine ⟨fun z => ⟨fun z2 => ?_, fun z2 => ?_⟩, fun z => ⟨(ab_hc a - h, 0, ab_hc a - 0), lx2 (by omega), rfl, x, h, 0, u, v, w, rfl, hR, hP, hm, hf, hh, by omega, hno, rfl, by omega, rfl⟩⟩
    · rw [if_pos (show x = 0 from z2), show ab_hc a = h by omega] at h9
      rw [if_neg (show ¬ h = 0 by omega)]
      exact h9
    · rw [if_neg (show ¬ x = 0 from z2), show ab_hc a = h by omega] at h9
      exact h9
  · intro as σ0 Z h0 μ L S σ hI
    obtain ⟨rfl, x, h, r, u, v, w, rfl, hR, hP, hm, hf, hh, hr, hno, rfl, hh2, rfl⟩ := hI
    have b1 := kbi_lt a h
    have b2 := kwo_lt a h r
    have b3 := kW_lt a (nI h) (nI r)
    by_cases hlt : r < ab_hc a
    · simp (disch := omega) only [b_N_askOf_137, b_N_askOf_136, b_N_askOf_132, b_N_askOf_128, b_N_askOf_121, b_N_askOf_120, b_N_askOf_115, b_N_askOf_109, b_N_askOf_108, b_N_askOf_103, b_N_askOf_96, b_N_askOf_95, b_N_askOf_91, b_N_askOf_85, b_N_askOf_72, b_N_askOf_70, b_N_askOf_65, b_N_askOf_48, b_N_askOf_39, b_N_askOf_33, b_N_askOf_24, b_N_askOf_17, b_N_askOf_14, b_N_askOf_7, b_N_askOf_0, e_il3, e_il2, e_il1, e_il5, e_il6, e_il4, e_il7, e_al0, e_is3i, e_is3r, e_is3n, e_is2i, e_is2r, e_is2n, e_is6i, e_is6r, e_is6n, e_is5i, e_is5r, e_is5n, e_is7i, e_is7r, e_is7n, e_is4i, e_is4r, e_is4n, e_inc4i, e_inc4r, e_inc4n, e_inc6i, e_inc6r, e_inc6n, e_c, e_b1, e_b2, e_gi, e_ir, e_cv3, e_hd, e_cv1, e_c10, e_c1i, e_c1r, e_sh0, e_sh1, e_sh2, e_sh3, e_sh4, e_tls, e_tln, e_tl0, e_tl1, cl_82, q_N_waysNow, q_N_waysBy, Nat.reduceAdd, true_and, and_true, true_implies, not_true_eq_false, false_implies, not_false_eq_true, imp_self, forall_const, List.append_nil, ra_I, ra_J, ra_pad, true_or, or_true, Nat.reduceEqDiff, ra_bz, eq_self, if_true, if_false, false_and, and_false, Nat.zero_le, List.cons_append, List.nil_append, Nat.reduceLT, Nat.reduceLeDiff, Nat.reduceMul, Nat.reduceSub, n_0, n_1, n_2, n_3, n_4, n_5, n_6, n_7, n_8, n_9, n_10, n_12, n_40, n_48, n_57, n_59, n_72, n_99, n_102, n_103, n_107, n_108, n_192, n_255, n_256, n_999, n_1000, n_104, nI_add, pk_mul, n_cl, n_inT, n_le, n_lt, n_eq, n_m1, n_m1', n_lem1, n_m1le, n_ltm1, n_m1lt, n_lepred, n_shl, fa_or, hP.1.1]
      refine ⟨fun z => by omega, fun _ => ⟨hR, hP, hm, fun σ' g1 g2 => ?_⟩⟩
      have step : ∀ (y : Nat) (w' : Int32), y = kwo a h (r + 1) → ∃ μ', ra_lx μ' (ab_hc a - h, 0, ab_hc a - r) ∧ I_N_askOf a Z [.ref 82, .int x] σ0 39 μ' [.ref 82, .int x, .int (if h = 0 then -nI 1 else nI (kbi a h).1), .int (nI (kbi a h).2), .int (nI h), .int (nI y), .int (nI (r + 1)), .int w'] [] σ' := by
        intro y w' hy
        rw [hy]
        exact ⟨(ab_hc a - h, 0, ab_hc a - (r + 1)), lx3 (by omega), rfl, x, h, r + 1, u, v, _, rfl, hR.fr g1 (by decide), hP.fr g1 (by rw [g2, hP.1.1]) (by decide), hm.fr g1 (by decide), hf.tr g1 (by decide), hh, by omega, hno, rfl, hh2, rfl⟩
      refine ⟨fun z => step _ _ ?_, fun z => step _ _ ?_⟩
      · rw [kwo, if_neg (by omega)]
      · rw [kwo, if_pos (by omega)]
    · have he : r = ab_hc a := by omega
      subst he
      have step : ∀ (b : Int32) (m : Nat) (v' : Int32), b = nI (kbi a (h + 1)).1 → m = (kbi a (h + 1)).2 → ∃ μ', ra_lx μ' (ab_hc a - h, 0, ab_hc a - ab_hc a) ∧ I_N_askOf a Z [.ref 82, .int x] σ0 24 μ' [.ref 82, .int x, .int b, .int (nI m), .int (nI (h + 1)), .int (nI (kwo a h (ab_hc a))), .int v', w] [] σ := by
        intro b m v' hb hm'
        rw [hb, hm']
        exact ⟨(ab_hc a - (h + 1), 1, 0), lx1 (by omega), rfl, x, h + 1, 0, _, _, w, rfl, hR, hP, hm, hf, by omega, by omega, hno, rfl, rfl⟩
      rcases Nat.eq_zero_or_pos h with rfl | hpos
      · simp (disch := omega) only [b_N_askOf_137, b_N_askOf_136, b_N_askOf_132, b_N_askOf_128, b_N_askOf_121, b_N_askOf_120, b_N_askOf_115, b_N_askOf_109, b_N_askOf_108, b_N_askOf_103, b_N_askOf_96, b_N_askOf_95, b_N_askOf_91, b_N_askOf_85, b_N_askOf_80, b_N_askOf_72, b_N_askOf_70, b_N_askOf_65, b_N_askOf_39, b_N_askOf_33, b_N_askOf_24, b_N_askOf_17, b_N_askOf_14, b_N_askOf_7, b_N_askOf_0, e_il3, e_il2, e_il1, e_il5, e_il6, e_il4, e_il7, e_al0, e_is3i, e_is3r, e_is3n, e_is2i, e_is2r, e_is2n, e_is6i, e_is6r, e_is6n, e_is5i, e_is5r, e_is5n, e_is7i, e_is7r, e_is7n, e_is4i, e_is4r, e_is4n, e_inc4i, e_inc4r, e_inc4n, e_inc6i, e_inc6r, e_inc6n, e_c, e_b1, e_b2, e_gi, e_ir, e_cv3, e_hd, e_cv1, e_c10, e_c1i, e_c1r, e_sh0, e_sh1, e_sh2, e_sh3, e_sh4, e_tls, e_tln, e_tl0, e_tl1, cl_82, q_N_waysNow, q_N_waysBy, Nat.reduceAdd, true_and, and_true, true_implies, not_true_eq_false, false_implies, not_false_eq_true, imp_self, forall_const, List.append_nil, ra_I, ra_J, ra_pad, true_or, or_true, Nat.reduceEqDiff, ra_bz, eq_self, if_true, if_false, false_and, and_false, Nat.zero_le, List.cons_append, List.nil_append, Nat.reduceLT, Nat.reduceLeDiff, Nat.reduceMul, Nat.reduceSub, n_0, n_1, n_2, n_3, n_4, n_5, n_6, n_7, n_8, n_9, n_10, n_12, n_40, n_48, n_57, n_59, n_72, n_99, n_102, n_103, n_107, n_108, n_192, n_255, n_256, n_999, n_1000, n_104, nI_add, pk_mul, n_cl, n_inT, n_le, n_lt, n_eq, n_m1, n_m1', n_lem1, n_m1le, n_ltm1, n_m1lt, n_lepred, n_shl, fa_or, hP.1.1]
        refine ⟨fun _ => step _ _ _ ?_ ?_, fun z => by omega⟩
        · rw [kbi, if_pos (Or.inl rfl)]
        · rw [kbi, if_pos (Or.inl rfl)]
      · rw [if_neg (by omega)]
        simp (disch := omega) only [b_N_askOf_137, b_N_askOf_136, b_N_askOf_132, b_N_askOf_128, b_N_askOf_121, b_N_askOf_120, b_N_askOf_115, b_N_askOf_109, b_N_askOf_108, b_N_askOf_103, b_N_askOf_96, b_N_askOf_95, b_N_askOf_91, b_N_askOf_85, b_N_askOf_80, b_N_askOf_72, b_N_askOf_70, b_N_askOf_65, b_N_askOf_39, b_N_askOf_33, b_N_askOf_24, b_N_askOf_17, b_N_askOf_14, b_N_askOf_7, b_N_askOf_0, e_il3, e_il2, e_il1, e_il5, e_il6, e_il4, e_il7, e_al0, e_is3i, e_is3r, e_is3n, e_is2i, e_is2r, e_is2n, e_is6i, e_is6r, e_is6n, e_is5i, e_is5r, e_is5n, e_is7i, e_is7r, e_is7n, e_is4i, e_is4r, e_is4n, e_inc4i, e_inc4r, e_inc4n, e_inc6i, e_inc6r, e_inc6n, e_c, e_b1, e_b2, e_gi, e_ir, e_cv3, e_hd, e_cv1, e_c10, e_c1i, e_c1r, e_sh0, e_sh1, e_sh2, e_sh3, e_sh4, e_tls, e_tln, e_tl0, e_tl1, cl_82, q_N_waysNow, q_N_waysBy, Nat.reduceAdd, true_and, and_true, true_implies, not_true_eq_false, false_implies, not_false_eq_true, imp_self, forall_const, List.append_nil, ra_I, ra_J, ra_pad, true_or, or_true, Nat.reduceEqDiff, ra_bz, eq_self, if_true, if_false, false_and, and_false, Nat.zero_le, List.cons_append, List.nil_append, Nat.reduceLT, Nat.reduceLeDiff, Nat.reduceMul, Nat.reduceSub, n_0, n_1, n_2, n_3, n_4, n_5, n_6, n_7, n_8, n_9, n_10, n_12, n_40, n_48, n_57, n_59, n_72, n_99, n_102, n_103, n_107, n_108, n_192, n_255, n_256, n_999, n_1000, n_104, nI_add, pk_mul, n_cl, n_inT, n_le, n_lt, n_eq, n_m1, n_m1', n_lem1, n_m1le, n_ltm1, n_m1lt, n_lepred, n_shl, fa_or, hP.1.1]
        refine ⟨fun _ => ⟨fun z => step _ _ _ ?_ ?_, fun z => step _ _ _ ?_ ?_⟩, fun z => by omega⟩
        · rw [kbi, if_neg (by omega)]
        · rw [kbi, if_neg (by omega)]
        · rw [kbi, if_pos (by omega)]
        · rw [kbi, if_pos (by omega)]
noncomputable def an_ask (a : Ab) (x : Int32) : Int32 := by
  classical
  exact if an_in x 1 then an_as a x else -2
theorem an_ask_yes {a : Ab} {x : Int32} (h : an_in x 1) : an_ask a x = an_as a x := by
  unfold an_ask
  exact if_pos h
theorem an_ask_no {a : Ab} {x : Int32} (h : ¬ an_in x 1) : an_ask a x = -2 := by
  unfold an_ask
  exact if_neg h
def sp_N_ask (a : Ab) : ra_Sp := ra_f1 82 (fun x σ Z => rn_R a σ ∧ ∀ σ', ra_fr rn_scr σ σ' → Z (some (.int (an_ask a x))) σ')
theorem q_N_ask {a : Ab} {oo : Nat} {x : Int32} {σ : ra_St} {Z : ra_R} : sp_N_ask a [.ref oo, .int x] σ Z = (oo = 82 ∧ (rn_R a σ ∧ ∀ σ', ra_fr rn_scr σ σ' → Z (some (.int (an_ask a x))) σ')) := rfl
theorem k_N_ask {l : Launch} {X : ra_X} {a : Ab} (hW : ab_W a) : ra_MOK l X mi_N_ask (sp_N_ask a) := by
  refine g_N_ask k_N_in (k_N_askOf hW) (sp_N_ask a) ?_
  intro as σ Z _ _ h
  obtain ⟨x, rfl, hR, hZ⟩ := x_f1 h
  simp (disch := omega) only [b_N_ask_19, b_N_ask_17, b_N_ask_9, b_N_ask_0, e_al0, e_il1, e_c, e_b1, e_ir, e_cs3, e_cv2, e_hd, e_c10, e_c1i, e_c1r, e_sh0, e_sh1, e_sh2, e_sh3, e_sh4, e_tls, e_tln, e_tl0, e_tl1, cl_82, q_N_in, q_N_askOf, Nat.reduceAdd, true_and, and_true, true_implies, not_true_eq_false, false_implies, not_false_eq_true, imp_self, forall_const, List.append_nil, ra_I, ra_J, ra_pad, true_or, or_true, Nat.reduceEqDiff, ra_bz, eq_self, if_true, if_false, false_and, and_false, Nat.zero_le, List.cons_append, List.nil_append, Nat.reduceLT, Nat.reduceLeDiff, Nat.reduceMul, Nat.reduceSub, n_0, n_1, n_2, n_3, n_4, n_5, n_6, n_7, n_8, n_9, n_10, n_12, n_40, n_48, n_57, n_59, n_72, n_99, n_102, n_103, n_107, n_108, n_192, n_255, n_256, n_999, n_1000, n_104, nI_add, pk_mul, n_cl, n_in, n_le, n_lt, n_eq, n_m1, n_m1', n_lem1, n_m1le, n_ltm1, n_m1lt, n_lepred, n_shl, fa_or]
  refine ⟨fun q => ⟨hR, fun σ' g1 g2 => ?_⟩, fun q => ?_⟩
  · have h9 := hZ σ' g2
    rw [an_ask_yes q] at h9
    exact h9
  · have h9 := hZ σ ra_fr.rf
    rw [an_ask_no q] at h9
    exact h9
