/-! the class: a course of rains -/
theorem fb_ct_at {p : Nat → Bool} : ∀ {n i : Nat}, i < fb_ct p n → ∃ h, h < n ∧ p h = true ∧ fb_ct p h = i
  | 0, i, h => absurd h (Nat.not_lt_zero _)
  | n + 1, i, h => by
    by_cases q : i < fb_ct p n
    · obtain ⟨k, h1, h2, h3⟩ := fb_ct_at q
      exact ⟨k, by omega, h2, h3⟩
    · rw [fb_ct_succ] at h
      cases e : p n with
      | false => rw [e] at h; simp at h; omega
      | true => rw [e] at h; simp at h; exact ⟨n, by omega, e, by omega⟩
theorem fb_ct_mono' {p : Nat → Bool} {h : Nat} : ∀ {n : Nat}, h ≤ n → fb_ct p h ≤ fb_ct p n
  | 0, q => by rw [show h = 0 by omega]; exact Nat.le_refl _
  | n + 1, q => by
    rcases (show h ≤ n ∨ h = n + 1 by omega) with z | rfl
    · have := fb_ct_mono' (p := p) z
      rw [fb_ct_succ]
      omega
    · exact Nat.le_refl _
theorem fb_ct_lt' {p : Nat → Bool} {h n : Nat} (hh : h < n) (hp : p h = true) : fb_ct p h < fb_ct p n := by
  have h1 := fb_ct_mono' (p := p) (show h + 1 ≤ n by omega)
  rw [fb_ct_succ, hp] at h1
  simp at h1
  omega
theorem fb_ct_inj' {p : Nat → Bool} {h i : Nat} (hp : p h = true) (hi : p i = true) (e : fb_ct p h = fb_ct p i) : h = i := by
  rcases Nat.lt_trichotomy h i with z | z | z
  · have := fb_ct_lt' z hp
    omega
  · exact z
  · have := fb_ct_lt' z hi
    omega
/-- who is in a set -/
def cw (B : Nat) (h : Nat) : Nat := fb_ct (fun i => B.testBit i) h
def rc_who (o : Nat) (a : Ab) (B : Nat) (σ : ra_St) : Prop := σ o 9 = nI (cw B (ab_hc a)) ∧ ∀ h, h < ab_hc a → B.testBit h = true → σ (o + 1) (cw B h) = nI h
theorem cw_le (B h : Nat) : cw B h ≤ h := fb_ct_le _ _
theorem cw_s (B h : Nat) : cw B (h + 1) = cw B h + (if B.testBit h = true then 1 else 0) := by
  unfold cw
  rw [fb_ct_succ]
def sp_Co_choose (o : Nat) (a : Ab) : ra_Sp := ra_f1 o (fun x σ Z => rc_V a σ ∧ ∃ B : Nat, B < 256 ∧ x = nI B ∧ ∀ σ', rc_who o a B σ' → (∀ h, h < ab_hc a → B.testBit h = true → σ' (o + 2) h = nI (ab_te a h)) → ra_fs [o + 1, o + 2] [(o, 9)] σ σ' → Z none σ')
theorem q_Co_choose {o : Nat} {a : Ab} {oo : Nat} {x : Int32} {σ : ra_St} {Z : ra_R} : sp_Co_choose o a [.ref oo, .int x] σ Z = (oo = o ∧ (rc_V a σ ∧ ∃ B : Nat, B < 256 ∧ x = nI B ∧ ∀ σ', rc_who o a B σ' → (∀ h, h < ab_hc a → B.testBit h = true → σ' (o + 2) h = nI (ab_te a h)) → ra_fs [o + 1, o + 2] [(o, 9)] σ σ' → Z none σ')) := rfl
def I_Co_choose (o : Nat) (a : Ab) (Z : ra_R) (as : List Value) (σ0 : ra_St) (t : Nat) (μ : ra_M) : ra_K := fun L S σ => S = [] ∧ ∃ B h : Nat, as = [.ref o, .int (nI B)] ∧ B < 256 ∧ h ≤ ab_hc a ∧ rc_V a σ ∧ σ o 9 = nI (cw B h) ∧ (∀ j, j < h → B.testBit j = true → σ (o + 1) (cw B j) = nI j ∧ σ (o + 2) j = nI (ab_te a j)) ∧ ra_fs [o + 1, o + 2] [(o, 9)] σ0 σ ∧ μ = (ab_hc a - h, 0, 0) ∧ L = [.ref o, .int (nI B), .int (nI h)]
theorem k_Co_choose_15 {l : Launch} {X : ra_X} {a : Ab} : ra_MOK l X mi_Co_choose (sp_Co_choose 15 a) := by
  have h8 := ab_hc_8 a
  refine g_Co_choose k_R_has (sp_Co_choose 15 a) (I_Co_choose 15 a) ?_ ?_
  · intro as σ Z _ _ h
    obtain ⟨_, rfl, hV, B, hB, rfl, hZ⟩ := x_f1 h
    simp (disch := omega) only [b_Co_choose_67, b_Co_choose_61, b_Co_choose_26, b_Co_choose_18, b_Co_choose_7, b_Co_choose_0, e_al0, e_il2, e_il1, e_is2i, e_is2r, e_is2n, e_inc2i, e_inc2r, e_inc2n, e_c, e_i2, e_b1, e_b2, e_gi, e_gr, e_pi, e_ald, e_ast, e_vr, e_dupi, e_dupr, e_cs2, e_c10, e_c1i, e_c1r, e_sh0, e_sh1, e_sh2, e_sh3, e_sh4, e_tls, e_tln, e_tl0, e_tl1, cl_1, cl_8, ln_8, cl_15, cl_16, ln_16, cl_17, ln_17, tg_1_4, tg_15_0, tg_15_2, tg_15_3, q_R_has, Nat.reduceAdd, true_and, and_true, true_implies, not_true_eq_false, false_implies, not_false_eq_true, imp_self, forall_const, List.append_nil, ra_I, ra_J, ra_pad, true_or, or_true, Nat.reduceEqDiff, ra_bz, eq_self, if_true, if_false, false_and, and_false, Nat.zero_le, List.cons_append, List.nil_append, Nat.reduceLT, Nat.reduceLeDiff, Nat.reduceMul, Nat.reduceSub, n_0, n_1, n_2, n_3, n_4, n_5, n_6, n_7, n_8, n_9, n_10, n_12, n_40, n_48, n_57, n_59, n_72, n_99, n_102, n_103, n_107, n_108, n_192, n_255, n_256, n_999, n_1000, n_104, nI_add, pk_mul, n_cl, n_inT, n_le, n_lt, n_eq, n_m1, n_m1', n_lem1, n_m1le, n_ltm1, n_m1lt, n_lepred, n_shl, fa_or]
    have hf : ra_fs [16, 17] [(15, 9)] σ (ra_sw σ 15 9 (nI 0)) := ra_fs.rf.sw (Or.inr (by decide))
    exact ⟨_, rfl, B, 0, rfl, hB, by omega, hV.fs hf (by decide), by simp [sw_at, cw, fb_ct], fun j hj => by omega, hf, rfl, rfl⟩
  · intro as σ0 Z h0 μ L S σ hI
    obtain ⟨rfl, B, h, rfl, hB, hh, hV, h9, hq, hf, rfl, rfl⟩ := hI
    obtain ⟨_, e, -, B', hB', e2, hZ⟩ := x_f1 h0
    cases e
    rw [n_eq (by omega) (by omega)] at e2
    subst e2
    have hc := cw_le B h
    by_cases hlt : h < ab_hc a
    · have e3 := (hV.2.1.2 h hlt).2.2
      simp (disch := omega) only [b_Co_choose_67, b_Co_choose_61, b_Co_choose_26, b_Co_choose_18, b_Co_choose_7, b_Co_choose_0, e_al0, e_il2, e_il1, e_is2i, e_is2r, e_is2n, e_inc2i, e_inc2r, e_inc2n, e_c, e_i2, e_b1, e_b2, e_gi, e_gr, e_pi, e_ald, e_ast, e_vr, e_dupi, e_dupr, e_cs2, e_c10, e_c1i, e_c1r, e_sh0, e_sh1, e_sh2, e_sh3, e_sh4, e_tls, e_tln, e_tl0, e_tl1, cl_1, cl_8, ln_8, cl_15, cl_16, ln_16, cl_17, ln_17, tg_1_4, tg_15_0, tg_15_2, tg_15_3, q_R_has, Nat.reduceAdd, true_and, and_true, true_implies, not_true_eq_false, false_implies, not_false_eq_true, imp_self, forall_const, List.append_nil, ra_I, ra_J, ra_pad, true_or, or_true, Nat.reduceEqDiff, ra_bz, eq_self, if_true, if_false, false_and, and_false, Nat.zero_le, List.cons_append, List.nil_append, Nat.reduceLT, Nat.reduceLeDiff, Nat.reduceMul, Nat.reduceSub, n_0, n_1, n_2, n_3, n_4, n_5, n_6, n_7, n_8, n_9, n_10, n_12, n_40, n_48, n_57, n_59, n_72, n_99, n_102, n_103, n_107, n_108, n_192, n_255, n_256, n_999, n_1000, n_104, nI_add, pk_mul, n_cl, n_inT, n_le, n_lt, n_eq, n_m1, n_m1', n_lem1, n_m1le, n_ltm1, n_m1lt, n_lepred, n_shl, fa_or, hV.2.1.1, h9, e3, sw_at]
      have hf1 : ra_fs [16, 17] [(15, 9)] σ (ra_sw (ra_sw (ra_sw σ 16 (cw B h) (nI h)) 15 9 (nI (cw B h + 1))) 17 h (nI (ab_te a h))) := ((ra_fs.rf.sw (Or.inl (by decide))).sw (Or.inr (by decide))).sw (Or.inl (by decide))
      refine ⟨fun q => by omega, fun _ => ⟨fun q => ⟨(ab_hc a - (h + 1), 0, 0), lx1 (by omega), rfl, B, h + 1, rfl, hB, by omega, hV.fs hf1 (by decide), ?_, fun j hj hb => ?_, hf.tr hf1 (by decide) (by decide), rfl, rfl⟩, fun q => ⟨(ab_hc a - (h + 1), 0, 0), lx1 (by omega), rfl, B, h + 1, rfl, hB, by omega, hV, ?_, fun j hj hb => ?_, hf, rfl, rfl⟩⟩⟩
      · rw [cw_s, if_pos q]
        simp [sw_at]
      · by_cases e : j = h
        · subst e; simp [sw_at]
        · have e2 : ¬ cw B j = cw B h := fun z => e (fb_ct_inj' hb q z)
          simpa [sw_at, e, e2] using hq j (by omega) hb
      · rw [cw_s, if_neg q]
        exact h9
      · rcases (show j < h ∨ j = h by omega) with z | rfl
        · exact hq j z hb
        · exact absurd hb q
    · simp (disch := omega) only [b_Co_choose_67, b_Co_choose_61, b_Co_choose_26, b_Co_choose_7, b_Co_choose_0, e_al0, e_il2, e_il1, e_is2i, e_is2r, e_is2n, e_inc2i, e_inc2r, e_inc2n, e_c, e_i2, e_b1, e_b2, e_gi, e_gr, e_pi, e_ald, e_ast, e_vr, e_dupi, e_dupr, e_cs2, e_c10, e_c1i, e_c1r, e_sh0, e_sh1, e_sh2, e_sh3, e_sh4, e_tls, e_tln, e_tl0, e_tl1, cl_1, cl_8, ln_8, cl_15, cl_16, ln_16, cl_17, ln_17, tg_1_4, tg_15_0, tg_15_2, tg_15_3, q_R_has, Nat.reduceAdd, true_and, and_true, true_implies, not_true_eq_false, false_implies, not_false_eq_true, imp_self, forall_const, List.append_nil, ra_I, ra_J, ra_pad, true_or, or_true, Nat.reduceEqDiff, ra_bz, eq_self, if_true, if_false, false_and, and_false, Nat.zero_le, List.cons_append, List.nil_append, Nat.reduceLT, Nat.reduceLeDiff, Nat.reduceMul, Nat.reduceSub, n_0, n_1, n_2, n_3, n_4, n_5, n_6, n_7, n_8, n_9, n_10, n_12, n_40, n_48, n_57, n_59, n_72, n_99, n_102, n_103, n_107, n_108, n_192, n_255, n_256, n_999, n_1000, n_104, nI_add, pk_mul, n_cl, n_inT, n_le, n_lt, n_eq, n_m1, n_m1', n_lem1, n_m1le, n_ltm1, n_m1lt, n_lepred, n_shl, fa_or, hV.2.1.1]
      have he : h = ab_hc a := by omega
      subst he
      exact ⟨fun _ => hZ σ ⟨h9, fun j hj hb => (hq j hj hb).1⟩ (fun j hj hb => (hq j hj hb).2) hf, fun q => by omega⟩
theorem k_Co_choose_29 {l : Launch} {X : ra_X} {a : Ab} : ra_MOK l X mi_Co_choose (sp_Co_choose 29 a) := by
  have h8 := ab_hc_8 a
  refine g_Co_choose k_R_has (sp_Co_choose 29 a) (I_Co_choose 29 a) ?_ ?_
  · intro as σ Z _ _ h
    obtain ⟨_, rfl, hV, B, hB, rfl, hZ⟩ := x_f1 h
    simp (disch := omega) only [b_Co_choose_67, b_Co_choose_61, b_Co_choose_26, b_Co_choose_18, b_Co_choose_7, b_Co_choose_0, e_al0, e_il2, e_il1, e_is2i, e_is2r, e_is2n, e_inc2i, e_inc2r, e_inc2n, e_c, e_i2, e_b1, e_b2, e_gi, e_gr, e_pi, e_ald, e_ast, e_vr, e_dupi, e_dupr, e_cs2, e_c10, e_c1i, e_c1r, e_sh0, e_sh1, e_sh2, e_sh3, e_sh4, e_tls, e_tln, e_tl0, e_tl1, cl_1, cl_8, ln_8, cl_29, cl_30, ln_30, cl_31, ln_31, tg_1_4, tg_29_0, tg_29_2, tg_29_3, q_R_has, Nat.reduceAdd, true_and, and_true, true_implies, not_true_eq_false, false_implies, not_false_eq_true, imp_self, forall_const, List.append_nil, ra_I, ra_J, ra_pad, true_or, or_true, Nat.reduceEqDiff, ra_bz, eq_self, if_true, if_false, false_and, and_false, Nat.zero_le, List.cons_append, List.nil_append, Nat.reduceLT, Nat.reduceLeDiff, Nat.reduceMul, Nat.reduceSub, n_0, n_1, n_2, n_3, n_4, n_5, n_6, n_7, n_8, n_9, n_10, n_12, n_40, n_48, n_57, n_59, n_72, n_99, n_102, n_103, n_107, n_108, n_192, n_255, n_256, n_999, n_1000, n_104, nI_add, pk_mul, n_cl, n_inT, n_le, n_lt, n_eq, n_m1, n_m1', n_lem1, n_m1le, n_ltm1, n_m1lt, n_lepred, n_shl, fa_or]
    have hf : ra_fs [30, 31] [(29, 9)] σ (ra_sw σ 29 9 (nI 0)) := ra_fs.rf.sw (Or.inr (by decide))
    exact ⟨_, rfl, B, 0, rfl, hB, by omega, hV.fs hf (by decide), by simp [sw_at, cw, fb_ct], fun j hj => by omega, hf, rfl, rfl⟩
  · intro as σ0 Z h0 μ L S σ hI
    obtain ⟨rfl, B, h, rfl, hB, hh, hV, h9, hq, hf, rfl, rfl⟩ := hI
    obtain ⟨_, e, -, B', hB', e2, hZ⟩ := x_f1 h0
    cases e
    rw [n_eq (by omega) (by omega)] at e2
    subst e2
    have hc := cw_le B h
    by_cases hlt : h < ab_hc a
    · have e3 := (hV.2.1.2 h hlt).2.2
      simp (disch := omega) only [b_Co_choose_67, b_Co_choose_61, b_Co_choose_26, b_Co_choose_18, b_Co_choose_7, b_Co_choose_0, e_al0, e_il2, e_il1, e_is2i, e_is2r, e_is2n, e_inc2i, e_inc2r, e_inc2n, e_c, e_i2, e_b1, e_b2, e_gi, e_gr, e_pi, e_ald, e_ast, e_vr, e_dupi, e_dupr, e_cs2, e_c10, e_c1i, e_c1r, e_sh0, e_sh1, e_sh2, e_sh3, e_sh4, e_tls, e_tln, e_tl0, e_tl1, cl_1, cl_8, ln_8, cl_29, cl_30, ln_30, cl_31, ln_31, tg_1_4, tg_29_0, tg_29_2, tg_29_3, q_R_has, Nat.reduceAdd, true_and, and_true, true_implies, not_true_eq_false, false_implies, not_false_eq_true, imp_self, forall_const, List.append_nil, ra_I, ra_J, ra_pad, true_or, or_true, Nat.reduceEqDiff, ra_bz, eq_self, if_true, if_false, false_and, and_false, Nat.zero_le, List.cons_append, List.nil_append, Nat.reduceLT, Nat.reduceLeDiff, Nat.reduceMul, Nat.reduceSub, n_0, n_1, n_2, n_3, n_4, n_5, n_6, n_7, n_8, n_9, n_10, n_12, n_40, n_48, n_57, n_59, n_72, n_99, n_102, n_103, n_107, n_108, n_192, n_255, n_256, n_999, n_1000, n_104, nI_add, pk_mul, n_cl, n_inT, n_le, n_lt, n_eq, n_m1, n_m1', n_lem1, n_m1le, n_ltm1, n_m1lt, n_lepred, n_shl, fa_or, hV.2.1.1, h9, e3, sw_at]
      have hf1 : ra_fs [30, 31] [(29, 9)] σ (ra_sw (ra_sw (ra_sw σ 30 (cw B h) (nI h)) 29 9 (nI (cw B h + 1))) 31 h (nI (ab_te a h))) := ((ra_fs.rf.sw (Or.inl (by decide))).sw (Or.inr (by decide))).sw (Or.inl (by decide))
      refine ⟨fun q => by omega, fun _ => ⟨fun q => ⟨(ab_hc a - (h + 1), 0, 0), lx1 (by omega), rfl, B, h + 1, rfl, hB, by omega, hV.fs hf1 (by decide), ?_, fun j hj hb => ?_, hf.tr hf1 (by decide) (by decide), rfl, rfl⟩, fun q => ⟨(ab_hc a - (h + 1), 0, 0), lx1 (by omega), rfl, B, h + 1, rfl, hB, by omega, hV, ?_, fun j hj hb => ?_, hf, rfl, rfl⟩⟩⟩
      · rw [cw_s, if_pos q]
        simp [sw_at]
      · by_cases e : j = h
        · subst e; simp [sw_at]
        · have e2 : ¬ cw B j = cw B h := fun z => e (fb_ct_inj' hb q z)
          simpa [sw_at, e, e2] using hq j (by omega) hb
      · rw [cw_s, if_neg q]
        exact h9
      · rcases (show j < h ∨ j = h by omega) with z | rfl
        · exact hq j z hb
        · exact absurd hb q
    · simp (disch := omega) only [b_Co_choose_67, b_Co_choose_61, b_Co_choose_26, b_Co_choose_7, b_Co_choose_0, e_al0, e_il2, e_il1, e_is2i, e_is2r, e_is2n, e_inc2i, e_inc2r, e_inc2n, e_c, e_i2, e_b1, e_b2, e_gi, e_gr, e_pi, e_ald, e_ast, e_vr, e_dupi, e_dupr, e_cs2, e_c10, e_c1i, e_c1r, e_sh0, e_sh1, e_sh2, e_sh3, e_sh4, e_tls, e_tln, e_tl0, e_tl1, cl_1, cl_8, ln_8, cl_29, cl_30, ln_30, cl_31, ln_31, tg_1_4, tg_29_0, tg_29_2, tg_29_3, q_R_has, Nat.reduceAdd, true_and, and_true, true_implies, not_true_eq_false, false_implies, not_false_eq_true, imp_self, forall_const, List.append_nil, ra_I, ra_J, ra_pad, true_or, or_true, Nat.reduceEqDiff, ra_bz, eq_self, if_true, if_false, false_and, and_false, Nat.zero_le, List.cons_append, List.nil_append, Nat.reduceLT, Nat.reduceLeDiff, Nat.reduceMul, Nat.reduceSub, n_0, n_1, n_2, n_3, n_4, n_5, n_6, n_7, n_8, n_9, n_10, n_12, n_40, n_48, n_57, n_59, n_72, n_99, n_102, n_103, n_107, n_108, n_192, n_255, n_256, n_999, n_1000, n_104, nI_add, pk_mul, n_cl, n_inT, n_le, n_lt, n_eq, n_m1, n_m1', n_lem1, n_m1le, n_ltm1, n_m1lt, n_lepred, n_shl, fa_or, hV.2.1.1]
      have he : h = ab_hc a := by omega
      subst he
      exact ⟨fun _ => hZ σ ⟨h9, fun j hj hb => (hq j hj hb).1⟩ (fun j hj hb => (hq j hj hb).2) hf, fun q => by omega⟩
def sp_Co_begin (o : Nat) (a : Ab) (B : Nat) : ra_Sp := ra_f0 o (fun σ Z => rc_V a σ ∧ rc_who o a B σ ∧ ∀ σ', (∀ h, h < ab_hc a → B.testBit h = true → σ' (o + 3) h = nI (ab_tl a h) ∧ σ' (o + 4) h = nI (ab_pu a h) ∧ σ' (o + 5) h = nI 0 ∧ σ' (o + 6) h = nI 0) → σ' o 10 = nI 0 → ra_fs [o + 3, o + 4, o + 5, o + 6] [(o, 10)] σ σ' → Z none σ')
theorem q_Co_begin {o : Nat} {a : Ab} {B : Nat} {oo : Nat} {σ : ra_St} {Z : ra_R} : sp_Co_begin o a B [.ref oo] σ Z = (oo = o ∧ (rc_V a σ ∧ rc_who o a B σ ∧ ∀ σ', (∀ h, h < ab_hc a → B.testBit h = true → σ' (o + 3) h = nI (ab_tl a h) ∧ σ' (o + 4) h = nI (ab_pu a h) ∧ σ' (o + 5) h = nI 0 ∧ σ' (o + 6) h = nI 0) → σ' o 10 = nI 0 → ra_fs [o + 3, o + 4, o + 5, o + 6] [(o, 10)] σ σ' → Z none σ')) := rfl
theorem rc_who.fs {o : Nat} {a : Ab} {B : Nat} {cs : List Nat} {ss : List (Nat × Nat)} {σ σ' : ra_St} (h : rc_who o a B σ) (hf : ra_fs cs ss σ σ') (hd : ra_dj [o + 1] [(o, 9)] cs ss = true) : rc_who o a B σ' := by
  unfold rc_who
  rw [hf.cell hd (c := o + 1) (by simp), hf.slot hd (c := o) (j := 9) (by simp)]
  exact h
theorem rc_who.at {o : Nat} {a : Ab} {B i : Nat} {σ : ra_St} (h : rc_who o a B σ) (hi : i < cw B (ab_hc a)) : ∃ j, j < ab_hc a ∧ B.testBit j = true ∧ cw B j = i ∧ σ (o + 1) i = nI j := by
  obtain ⟨j, h1, h2, h3⟩ := fb_ct_at (p := fun i => B.testBit i) hi
  refine ⟨j, h1, h2, h3, ?_⟩
  rw [← h.2 j h1 h2]
  unfold cw
  rw [h3]
def I_Co_begin (o : Nat) (a : Ab) (B : Nat) (Z : ra_R) (as : List Value) (σ0 : ra_St) (t : Nat) (μ : ra_M) : ra_K := fun L S σ => S = [] ∧ as = [.ref o] ∧ ∃ (i : Nat) (u : Value), i ≤ cw B (ab_hc a) ∧ rc_V a σ ∧ rc_who o a B σ ∧ (∀ j, j < ab_hc a → B.testBit j = true → cw B j < i → σ (o + 3) j = nI (ab_tl a j) ∧ σ (o + 4) j = nI (ab_pu a j) ∧ σ (o + 5) j = nI 0 ∧ σ (o + 6) j = nI 0) ∧ σ o 10 = nI 0 ∧ ra_fs [o + 3, o + 4, o + 5, o + 6] [(o, 10)] σ0 σ ∧ μ = (cw B (ab_hc a) - i, 0, 0) ∧ L = [.ref o, .int (nI i), u]
theorem k_Co_begin_15 {l : Launch} {X : ra_X} {a : Ab} {B : Nat} : ra_MOK l X mi_Co_begin (sp_Co_begin 15 a B) := by
  have h8 := ab_hc_8 a
  have hc := cw_le B (ab_hc a)
  refine g_Co_begin (sp_Co_begin 15 a B) (I_Co_begin 15 a B) ?_ ?_
  · intro as σ Z _ _ h
    obtain ⟨rfl, hV, hw, hZ⟩ := x_f0 h
    simp (disch := omega) only [b_Co_begin_72, b_Co_begin_15, b_Co_begin_7, b_Co_begin_0, e_al0, e_il1, e_il2, e_is2i, e_is2r, e_is2n, e_is1i, e_is1r, e_is1n, e_inc1i, e_inc1r, e_inc1n, e_c, e_b2, e_gi, e_gr, e_pi, e_ald, e_ast, e_vr, cl_1, cl_6, ln_6, cl_7, ln_7, cl_15, cl_16, ln_16, cl_18, ln_18, cl_19, ln_19, cl_20, ln_20, cl_21, ln_21, tg_1_2, tg_1_3, tg_15_0, tg_15_2, tg_15_4, tg_15_5, tg_15_6, tg_15_7, Nat.reduceAdd, true_and, and_true, true_implies, not_true_eq_false, false_implies, not_false_eq_true, imp_self, forall_const, List.append_nil, ra_I, ra_J, ra_pad, true_or, or_true, Nat.reduceEqDiff, ra_bz, eq_self, if_true, if_false, false_and, and_false, Nat.zero_le, List.cons_append, List.nil_append, Nat.reduceLT, Nat.reduceLeDiff, Nat.reduceMul, Nat.reduceSub, n_0, n_1, n_2, n_3, n_4, n_5, n_6, n_7, n_8, n_9, n_10, n_12, n_40, n_48, n_57, n_59, n_72, n_99, n_102, n_103, n_107, n_108, n_192, n_255, n_256, n_999, n_1000, n_104, nI_add, pk_mul, n_cl, n_inT, n_le, n_lt, n_eq, n_m1, n_m1', n_lem1, n_m1le, n_ltm1, n_m1lt, n_lepred, n_shl, fa_or]
    have hf : ra_fs [18, 19, 20, 21] [(15, 10)] σ (ra_sw σ 15 10 (nI 0)) := ra_fs.rf.sw (Or.inr (by decide))
    exact ⟨_, rfl, rfl, 0, _, by omega, hV.fs hf (by decide), hw.fs hf (by decide), fun j _ _ hj => by omega, by simp [sw_at], hf, rfl, rfl⟩
  · intro as σ0 Z h0 μ L S σ hI
    obtain ⟨rfl, rfl, i, u, hi, hV, hw, hq, h10, hf, rfl, rfl⟩ := hI
    obtain ⟨-, -, -, hZ⟩ := x_f0 h0
    by_cases hlt : i < cw B (ab_hc a)
    · obtain ⟨j, hj, hb, hji, hwj⟩ := hw.at hlt
      obtain ⟨e1, e2, e3⟩ := hV.2.1.2 j hj
      have hwj : σ 16 i = nI j := hwj
      simp (disch := omega) only [b_Co_begin_15, b_Co_begin_7, b_Co_begin_0, e_al0, e_il1, e_il2, e_is2i, e_is2r, e_is2n, e_is1i, e_is1r, e_is1n, e_inc1i, e_inc1r, e_inc1n, e_c, e_b2, e_gi, e_gr, e_pi, e_ald, e_ast, e_vr, cl_1, cl_6, ln_6, cl_7, ln_7, cl_15, cl_16, ln_16, cl_18, ln_18, cl_19, ln_19, cl_20, ln_20, cl_21, ln_21, tg_1_2, tg_1_3, tg_15_0, tg_15_2, tg_15_4, tg_15_5, tg_15_6, tg_15_7, Nat.reduceAdd, true_and, and_true, true_implies, not_true_eq_false, false_implies, not_false_eq_true, imp_self, forall_const, List.append_nil, ra_I, ra_J, ra_pad, true_or, or_true, Nat.reduceEqDiff, ra_bz, eq_self, if_true, if_false, false_and, and_false, Nat.zero_le, List.cons_append, List.nil_append, Nat.reduceLT, Nat.reduceLeDiff, Nat.reduceMul, Nat.reduceSub, n_0, n_1, n_2, n_3, n_4, n_5, n_6, n_7, n_8, n_9, n_10, n_12, n_40, n_48, n_57, n_59, n_72, n_99, n_102, n_103, n_107, n_108, n_192, n_255, n_256, n_999, n_1000, n_104, nI_add, pk_mul, n_cl, n_inT, n_le, n_lt, n_eq, n_m1, n_m1', n_lem1, n_m1le, n_ltm1, n_m1lt, n_lepred, n_shl, fa_or, hw.1, hwj, e1, e2, sw_at]
      have hf1 : ra_fs [18, 19, 20, 21] [(15, 10)] σ (ra_sw (ra_sw (ra_sw (ra_sw σ 18 j (nI (ab_tl a j))) 19 j (nI (ab_pu a j))) 20 j (nI 0)) 21 j (nI 0)) := (((ra_fs.rf.sw (Or.inl (by decide))).sw (Or.inl (by decide))).sw (Or.inl (by decide))).sw (Or.inl (by decide))
      refine ⟨fun q => by omega, fun _ => ⟨(cw B (ab_hc a) - (i + 1), 0, 0), lx1 (by omega), rfl, rfl, i + 1, _, by omega, hV.fs hf1 (by decide), hw.fs hf1 (by decide), fun k hk hkb hki => ?_, by simpa [sw_at] using h10, hf.tr hf1 (by decide) (by decide), rfl, rfl⟩⟩
      by_cases e : k = j
      · subst e; simp [sw_at]
      · have e2 : ¬ cw B k = i := fun z => e (fb_ct_inj' hkb hb (z.trans hji.symm))
        simpa [sw_at, e] using hq k hk hkb (by omega)
    · simp (disch := omega) only [b_Co_begin_72, b_Co_begin_7, b_Co_begin_0, e_al0, e_il1, e_il2, e_is2i, e_is2r, e_is2n, e_is1i, e_is1r, e_is1n, e_inc1i, e_inc1r, e_inc1n, e_c, e_b2, e_gi, e_gr, e_pi, e_ald, e_ast, e_vr, cl_1, cl_6, ln_6, cl_7, ln_7, cl_15, cl_16, ln_16, cl_18, ln_18, cl_19, ln_19, cl_20, ln_20, cl_21, ln_21, tg_1_2, tg_1_3, tg_15_0, tg_15_2, tg_15_4, tg_15_5, tg_15_6, tg_15_7, Nat.reduceAdd, true_and, and_true, true_implies, not_true_eq_false, false_implies, not_false_eq_true, imp_self, forall_const, List.append_nil, ra_I, ra_J, ra_pad, true_or, or_true, Nat.reduceEqDiff, ra_bz, eq_self, if_true, if_false, false_and, and_false, Nat.zero_le, List.cons_append, List.nil_append, Nat.reduceLT, Nat.reduceLeDiff, Nat.reduceMul, Nat.reduceSub, n_0, n_1, n_2, n_3, n_4, n_5, n_6, n_7, n_8, n_9, n_10, n_12, n_40, n_48, n_57, n_59, n_72, n_99, n_102, n_103, n_107, n_108, n_192, n_255, n_256, n_999, n_1000, n_104, nI_add, pk_mul, n_cl, n_inT, n_le, n_lt, n_eq, n_m1, n_m1', n_lem1, n_m1le, n_ltm1, n_m1lt, n_lepred, n_shl, fa_or, hw.1]
      exact ⟨fun _ => hZ σ (fun k hk hkb => hq k hk hkb (by have := fb_ct_lt' (p := fun i => B.testBit i) hk hkb; show fb_ct _ k < i; unfold cw at hlt; omega)) h10 hf, fun q => by omega⟩
theorem k_Co_begin_29 {l : Launch} {X : ra_X} {a : Ab} {B : Nat} : ra_MOK l X mi_Co_begin (sp_Co_begin 29 a B) := by
  have h8 := ab_hc_8 a
  have hc := cw_le B (ab_hc a)
  refine g_Co_begin (sp_Co_begin 29 a B) (I_Co_begin 29 a B) ?_ ?_
  · intro as σ Z _ _ h
    obtain ⟨rfl, hV, hw, hZ⟩ := x_f0 h
    simp (disch := omega) only [b_Co_begin_72, b_Co_begin_15, b_Co_begin_7, b_Co_begin_0, e_al0, e_il1, e_il2, e_is2i, e_is2r, e_is2n, e_is1i, e_is1r, e_is1n, e_inc1i, e_inc1r, e_inc1n, e_c, e_b2, e_gi, e_gr, e_pi, e_ald, e_ast, e_vr, cl_1, cl_6, ln_6, cl_7, ln_7, cl_29, cl_30, ln_30, cl_32, ln_32, cl_33, ln_33, cl_34, ln_34, cl_35, ln_35, tg_1_2, tg_1_3, tg_29_0, tg_29_2, tg_29_4, tg_29_5, tg_29_6, tg_29_7, Nat.reduceAdd, true_and, and_true, true_implies, not_true_eq_false, false_implies, not_false_eq_true, imp_self, forall_const, List.append_nil, ra_I, ra_J, ra_pad, true_or, or_true, Nat.reduceEqDiff, ra_bz, eq_self, if_true, if_false, false_and, and_false, Nat.zero_le, List.cons_append, List.nil_append, Nat.reduceLT, Nat.reduceLeDiff, Nat.reduceMul, Nat.reduceSub, n_0, n_1, n_2, n_3, n_4, n_5, n_6, n_7, n_8, n_9, n_10, n_12, n_40, n_48, n_57, n_59, n_72, n_99, n_102, n_103, n_107, n_108, n_192, n_255, n_256, n_999, n_1000, n_104, nI_add, pk_mul, n_cl, n_inT, n_le, n_lt, n_eq, n_m1, n_m1', n_lem1, n_m1le, n_ltm1, n_m1lt, n_lepred, n_shl, fa_or]
    have hf : ra_fs [32, 33, 34, 35] [(29, 10)] σ (ra_sw σ 29 10 (nI 0)) := ra_fs.rf.sw (Or.inr (by decide))
    exact ⟨_, rfl, rfl, 0, _, by omega, hV.fs hf (by decide), hw.fs hf (by decide), fun j _ _ hj => by omega, by simp [sw_at], hf, rfl, rfl⟩
  · intro as σ0 Z h0 μ L S σ hI
    obtain ⟨rfl, rfl, i, u, hi, hV, hw, hq, h10, hf, rfl, rfl⟩ := hI
    obtain ⟨-, -, -, hZ⟩ := x_f0 h0
    by_cases hlt : i < cw B (ab_hc a)
    · obtain ⟨j, hj, hb, hji, hwj⟩ := hw.at hlt
      obtain ⟨e1, e2, e3⟩ := hV.2.1.2 j hj
      have hwj : σ 30 i = nI j := hwj
      simp (disch := omega) only [b_Co_begin_15, b_Co_begin_7, b_Co_begin_0, e_al0, e_il1, e_il2, e_is2i, e_is2r, e_is2n, e_is1i, e_is1r, e_is1n, e_inc1i, e_inc1r, e_inc1n, e_c, e_b2, e_gi, e_gr, e_pi, e_ald, e_ast, e_vr, cl_1, cl_6, ln_6, cl_7, ln_7, cl_29, cl_30, ln_30, cl_32, ln_32, cl_33, ln_33, cl_34, ln_34, cl_35, ln_35, tg_1_2, tg_1_3, tg_29_0, tg_29_2, tg_29_4, tg_29_5, tg_29_6, tg_29_7, Nat.reduceAdd, true_and, and_true, true_implies, not_true_eq_false, false_implies, not_false_eq_true, imp_self, forall_const, List.append_nil, ra_I, ra_J, ra_pad, true_or, or_true, Nat.reduceEqDiff, ra_bz, eq_self, if_true, if_false, false_and, and_false, Nat.zero_le, List.cons_append, List.nil_append, Nat.reduceLT, Nat.reduceLeDiff, Nat.reduceMul, Nat.reduceSub, n_0, n_1, n_2, n_3, n_4, n_5, n_6, n_7, n_8, n_9, n_10, n_12, n_40, n_48, n_57, n_59, n_72, n_99, n_102, n_103, n_107, n_108, n_192, n_255, n_256, n_999, n_1000, n_104, nI_add, pk_mul, n_cl, n_inT, n_le, n_lt, n_eq, n_m1, n_m1', n_lem1, n_m1le, n_ltm1, n_m1lt, n_lepred, n_shl, fa_or, hw.1, hwj, e1, e2, sw_at]
      have hf1 : ra_fs [32, 33, 34, 35] [(29, 10)] σ (ra_sw (ra_sw (ra_sw (ra_sw σ 32 j (nI (ab_tl a j))) 33 j (nI (ab_pu a j))) 34 j (nI 0)) 35 j (nI 0)) := (((ra_fs.rf.sw (Or.inl (by decide))).sw (Or.inl (by decide))).sw (Or.inl (by decide))).sw (Or.inl (by decide))
      refine ⟨fun q => by omega, fun _ => ⟨(cw B (ab_hc a) - (i + 1), 0, 0), lx1 (by omega), rfl, rfl, i + 1, _, by omega, hV.fs hf1 (by decide), hw.fs hf1 (by decide), fun k hk hkb hki => ?_, by simpa [sw_at] using h10, hf.tr hf1 (by decide) (by decide), rfl, rfl⟩⟩
      by_cases e : k = j
      · subst e; simp [sw_at]
      · have e2 : ¬ cw B k = i := fun z => e (fb_ct_inj' hkb hb (z.trans hji.symm))
        simpa [sw_at, e] using hq k hk hkb (by omega)
    · simp (disch := omega) only [b_Co_begin_72, b_Co_begin_7, b_Co_begin_0, e_al0, e_il1, e_il2, e_is2i, e_is2r, e_is2n, e_is1i, e_is1r, e_is1n, e_inc1i, e_inc1r, e_inc1n, e_c, e_b2, e_gi, e_gr, e_pi, e_ald, e_ast, e_vr, cl_1, cl_6, ln_6, cl_7, ln_7, cl_29, cl_30, ln_30, cl_32, ln_32, cl_33, ln_33, cl_34, ln_34, cl_35, ln_35, tg_1_2, tg_1_3, tg_29_0, tg_29_2, tg_29_4, tg_29_5, tg_29_6, tg_29_7, Nat.reduceAdd, true_and, and_true, true_implies, not_true_eq_false, false_implies, not_false_eq_true, imp_self, forall_const, List.append_nil, ra_I, ra_J, ra_pad, true_or, or_true, Nat.reduceEqDiff, ra_bz, eq_self, if_true, if_false, false_and, and_false, Nat.zero_le, List.cons_append, List.nil_append, Nat.reduceLT, Nat.reduceLeDiff, Nat.reduceMul, Nat.reduceSub, n_0, n_1, n_2, n_3, n_4, n_5, n_6, n_7, n_8, n_9, n_10, n_12, n_40, n_48, n_57, n_59, n_72, n_99, n_102, n_103, n_107, n_108, n_192, n_255, n_256, n_999, n_1000, n_104, nI_add, pk_mul, n_cl, n_inT, n_le, n_lt, n_eq, n_m1, n_m1', n_lem1, n_m1le, n_ltm1, n_m1lt, n_lepred, n_shl, fa_or, hw.1]
      exact ⟨fun _ => hZ σ (fun k hk hkb => hq k hk hkb (by have := fb_ct_lt' (p := fun i => B.testBit i) hk hkb; show fb_ct _ k < i; unfold cw at hlt; omega)) h10 hf, fun q => by omega⟩
/-- of a rain in a course: what one goes by -/
def rc_cr (o : Nat) (a : Ab) (B : Nat) (te : Nat → Nat) (s : Nat) (m : Sm) (σ : ra_St) : Prop := ∀ h, h < ab_hc a → B.testBit h = true → σ (o + 2) h = nI (te h) ∧ te h ≤ 3 ∧ σ (o + 3) h = nI (m.1 h) ∧ σ (o + 4) h = nI (m.2.1 h) ∧ σ (o + 7) h = nI (s - m.1 h) ∧ m.1 h ≤ 9 ∧ m.2.1 h ≤ 9
def rc_cl (a : Ab) (B : Nat) : Prop := ∀ h, h < ab_hc a → B.testBit h = true → B.testBit (ab_on a h) = true ∧ B.testBit (ab_ow a h) = true
def sp_Co_isLaidOn (o : Nat) (a : Ab) (B : Nat) (te : Nat → Nat) (s : Nat) (m : Sm) : ra_Sp := ra_f2 o (fun r t σ Z => rc_V a σ ∧ rc_W a σ ∧ rc_cl a B ∧ s ≤ 9 ∧ rc_cr o a B te s m σ ∧ ∃ h : Nat, h < ab_hc a ∧ B.testBit h = true ∧ r = nI h ∧ 0 < s - m.1 h ∧ t = nI (if m.2.2.2.2 (ab_on a h) = true then 1 else 0) ∧ ra_bz (sm_lay a te s m h = true) Z σ)
theorem q_Co_isLaidOn {o : Nat} {a : Ab} {B : Nat} {te : Nat → Nat} {s : Nat} {m : Sm} {oo : Nat} {r t : Int32} {σ : ra_St} {Z : ra_R} : sp_Co_isLaidOn o a B te s m [.ref oo, .int r, .int t] σ Z = (oo = o ∧ (rc_V a σ ∧ rc_W a σ ∧ rc_cl a B ∧ s ≤ 9 ∧ rc_cr o a B te s m σ ∧ ∃ h : Nat, h < ab_hc a ∧ B.testBit h = true ∧ r = nI h ∧ 0 < s - m.1 h ∧ t = nI (if m.2.2.2.2 (ab_on a h) = true then 1 else 0) ∧ ra_bz (sm_lay a te s m h = true) Z σ)) := rfl
theorem k_Co_isLaidOn_15 {l : Launch} {X : ra_X} {a : Ab} {B : Nat} {te : Nat → Nat} {s : Nat} {m : Sm} (hW : ab_W a) : ra_MOK l X mi_Co_isLaidOn (sp_Co_isLaidOn 15 a B te s m) := by
  have h8 := ab_hc_8 a
  have hpr := hW.2.2.2.2.2.2.2.1
  refine g_Co_isLaidOn (sp_Co_isLaidOn 15 a B te s m) ?_
  intro as σ Z _ _ h0
  obtain ⟨_, _, rfl, hV, hWe, hcl, hs, hcr, h, hh, hb, rfl, hlk, rfl, h1, h2⟩ := x_f2 h0
  have hon := (ab_on_spec hh).1
  have hob := (hcl h hh hb).1
  obtain ⟨e1, e2, e3, e4, e5, e6, e7⟩ := hcr _ hon hob
  obtain ⟨f1, f2, f3, f4, f5, f6, f7⟩ := hcr h hh hb
  have g1 := (hV.2.2.2.2 h hh).2.1
  have hbt : (if m.2.2.2.2 (ab_on a h) = true then 1 else 0) ≤ 1 := by split <;> omega
  simp only [Nat.reduceAdd] at e1 e4 e5 f3 f5
  simp (disch := omega) only [b_Co_isLaidOn_109, b_Co_isLaidOn_108, b_Co_isLaidOn_107, b_Co_isLaidOn_103, b_Co_isLaidOn_93, b_Co_isLaidOn_92, b_Co_isLaidOn_91, b_Co_isLaidOn_87, b_Co_isLaidOn_83, b_Co_isLaidOn_74, b_Co_isLaidOn_72, b_Co_isLaidOn_39, b_Co_isLaidOn_37, b_Co_isLaidOn_26, b_Co_isLaidOn_0, e_al0, e_il1, e_il2, e_il3, e_is3i, e_is3r, e_is3n, e_c, e_b1, e_b2, e_gi, e_gr, e_ald, e_zr, e_sw, e_go0, e_go1, List.map_cons, List.map_nil, cl_1, cl_10, ln_10, cl_12, cl_15, cl_17, ln_17, cl_18, ln_18, cl_19, ln_19, cl_22, ln_22, tg_1_6, tg_15_0, tg_15_1, tg_15_3, tg_15_4, tg_15_5, tg_15_8, Nat.reduceAdd, true_and, and_true, true_implies, not_true_eq_false, false_implies, not_false_eq_true, imp_self, forall_const, List.append_nil, ra_I, ra_J, ra_pad, true_or, or_true, Nat.reduceEqDiff, ra_bz, eq_self, if_true, if_false, false_and, and_false, Nat.zero_le, List.cons_append, List.nil_append, Nat.reduceLT, Nat.reduceLeDiff, Nat.reduceMul, Nat.reduceSub, n_0, n_1, n_2, n_3, n_4, n_5, n_6, n_7, n_8, n_9, n_10, n_12, n_40, n_48, n_57, n_59, n_72, n_99, n_102, n_103, n_107, n_108, n_192, n_255, n_256, n_999, n_1000, n_104, nI_add, pk_mul, n_cl, n_inT, n_le, n_lt, n_eq, n_m1, n_m1', n_lem1, n_m1le, n_ltm1, n_m1lt, n_lepred, n_shl, fa_or, g1, e1, e4, e5, f3, f5, hWe.2.2.1]
  unfold sm_lay at h1 h2
  simp only [Bool.and_eq_true, decide_eq_true_eq] at h1 h2
  have hbB : ((if m.2.2.2.2 (ab_on a h) = true then 1 else 0) = 0) = (¬ m.2.2.2.2 (ab_on a h) = true) := by cases m.2.2.2.2 (ab_on a h) <;> simp
  rw [hbB]
  refine ⟨fun q => h2 (by omega), fun q => ⟨fun q1 => ⟨fun q2 => h1 ?_, fun q2 => ⟨fun q3 => ⟨fun q4 => h1 ?_, fun q4 => ⟨fun q5 => h2 ?_, fun q5 => h1 ?_⟩⟩, fun q3 => ⟨fun q4 => ⟨fun q5 => h2 ?_, fun q5 => h1 ?_⟩, fun q4 => h2 ?_⟩⟩⟩, fun q1 => h2 (by omega)⟩⟩
  · rw [if_pos q2, decide_eq_true_eq]; omega
  · rw [if_neg q2, if_pos q3]; simp [q4]; omega
  · rw [if_neg q2, if_pos q3]; simp [q4, q5]
  · rw [if_neg q2, if_pos q3]; simp [Classical.not_not.mp q5]; omega
  · rw [if_neg q2, if_neg q3]; simp; omega
  · rw [if_neg q2, if_neg q3]; simp; omega
  · rw [if_neg q2, if_neg q3]; simp [q4]
theorem k_Co_isLaidOn_29 {l : Launch} {X : ra_X} {a : Ab} {B : Nat} {te : Nat → Nat} {s : Nat} {m : Sm} (hW : ab_W a) : ra_MOK l X mi_Co_isLaidOn (sp_Co_isLaidOn 29 a B te s m) := by
  have h8 := ab_hc_8 a
  have hpr := hW.2.2.2.2.2.2.2.1
  refine g_Co_isLaidOn (sp_Co_isLaidOn 29 a B te s m) ?_
  intro as σ Z _ _ h0
  obtain ⟨_, _, rfl, hV, hWe, hcl, hs, hcr, h, hh, hb, rfl, hlk, rfl, h1, h2⟩ := x_f2 h0
  have hon := (ab_on_spec hh).1
  have hob := (hcl h hh hb).1
  obtain ⟨e1, e2, e3, e4, e5, e6, e7⟩ := hcr _ hon hob
  obtain ⟨f1, f2, f3, f4, f5, f6, f7⟩ := hcr h hh hb
  have g1 := (hV.2.2.2.2 h hh).2.1
  have hbt : (if m.2.2.2.2 (ab_on a h) = true then 1 else 0) ≤ 1 := by split <;> omega
  simp only [Nat.reduceAdd] at e1 e4 e5 f3 f5
  simp (disch := omega) only [b_Co_isLaidOn_109, b_Co_isLaidOn_108, b_Co_isLaidOn_107, b_Co_isLaidOn_103, b_Co_isLaidOn_93, b_Co_isLaidOn_92, b_Co_isLaidOn_91, b_Co_isLaidOn_87, b_Co_isLaidOn_83, b_Co_isLaidOn_74, b_Co_isLaidOn_72, b_Co_isLaidOn_39, b_Co_isLaidOn_37, b_Co_isLaidOn_26, b_Co_isLaidOn_0, e_al0, e_il1, e_il2, e_il3, e_is3i, e_is3r, e_is3n, e_c, e_b1, e_b2, e_gi, e_gr, e_ald, e_zr, e_sw, e_go0, e_go1, List.map_cons, List.map_nil, cl_1, cl_10, ln_10, cl_12, cl_29, cl_31, ln_31, cl_32, ln_32, cl_33, ln_33, cl_36, ln_36, tg_1_6, tg_29_0, tg_29_1, tg_29_3, tg_29_4, tg_29_5, tg_29_8, Nat.reduceAdd, true_and, and_true, true_implies, not_true_eq_false, false_implies, not_false_eq_true, imp_self, forall_const, List.append_nil, ra_I, ra_J, ra_pad, true_or, or_true, Nat.reduceEqDiff, ra_bz, eq_self, if_true, if_false, false_and, and_false, Nat.zero_le, List.cons_append, List.nil_append, Nat.reduceLT, Nat.reduceLeDiff, Nat.reduceMul, Nat.reduceSub, n_0, n_1, n_2, n_3, n_4, n_5, n_6, n_7, n_8, n_9, n_10, n_12, n_40, n_48, n_57, n_59, n_72, n_99, n_102, n_103, n_107, n_108, n_192, n_255, n_256, n_999, n_1000, n_104, nI_add, pk_mul, n_cl, n_inT, n_le, n_lt, n_eq, n_m1, n_m1', n_lem1, n_m1le, n_ltm1, n_m1lt, n_lepred, n_shl, fa_or, g1, e1, e4, e5, f3, f5, hWe.2.2.1]
  unfold sm_lay at h1 h2
  simp only [Bool.and_eq_true, decide_eq_true_eq] at h1 h2
  have hbB : ((if m.2.2.2.2 (ab_on a h) = true then 1 else 0) = 0) = (¬ m.2.2.2.2 (ab_on a h) = true) := by cases m.2.2.2.2 (ab_on a h) <;> simp
  rw [hbB]
  refine ⟨fun q => h2 (by omega), fun q => ⟨fun q1 => ⟨fun q2 => h1 ?_, fun q2 => ⟨fun q3 => ⟨fun q4 => h1 ?_, fun q4 => ⟨fun q5 => h2 ?_, fun q5 => h1 ?_⟩⟩, fun q3 => ⟨fun q4 => ⟨fun q5 => h2 ?_, fun q5 => h1 ?_⟩, fun q4 => h2 ?_⟩⟩⟩, fun q1 => h2 (by omega)⟩⟩
  · rw [if_pos q2, decide_eq_true_eq]; omega
  · rw [if_neg q2, if_pos q3]; simp [q4]; omega
  · rw [if_neg q2, if_pos q3]; simp [q4, q5]
  · rw [if_neg q2, if_pos q3]; simp [Classical.not_not.mp q5]; omega
  · rw [if_neg q2, if_neg q3]; simp; omega
  · rw [if_neg q2, if_neg q3]; simp; omega
  · rw [if_neg q2, if_neg q3]; simp [q4]
