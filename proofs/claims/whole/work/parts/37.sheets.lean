/-! claims and sheets -/
def bb_u (b : Bb) (i j : Nat) (v : Int32) : Bb := fun p q => if p = i ∧ q = j then v else b p q
noncomputable def bb_claim (b : Bb) (x v : Int32) : Bb × Int32 := by
  classical
  exact if an_in x 7 ∧ -1 ≤ v ∧ v ≤ 999 then (bb_u b 0 x.toNatClampNeg v, b 0 x.toNatClampNeg) else (b, -5)
theorem bb_claim_yes {b : Bb} {x : Nat} {v : Int32} (hx : x ≤ 7) (hv : -1 ≤ v ∧ v ≤ 999) : bb_claim b (nI x) v = (bb_u b 0 x v, b 0 x) := by
  unfold bb_claim
  rw [if_pos ⟨an_in_nI hx (by decide), hv⟩, n_cl (by omega)]
theorem bb_claim_no {b : Bb} {x v : Int32} (h : ¬ (an_in x 7 ∧ -1 ≤ v ∧ v ≤ 999)) : bb_claim b x v = (b, -5) := by
  unfold bb_claim
  exact if_neg h
theorem rn_R.sw {a : Ab} {σ : ra_St} {c i : Nat} {v : Int32} (h : rn_R a σ) (h1 : c ∉ [83, 84, 89, 90, 100, 103, 104, 105]) (h2 : c = 82 → i ≠ 7 ∧ i ≠ 22) : rn_R a (ra_sw σ c i v) := by
  simp only [List.mem_cons, List.not_mem_nil, or_false, not_or] at h1
  obtain ⟨k1, k2, k3, k4, k5, k6, k7, k8⟩ := h1
  unfold rn_R rn_T
  rw [show ra_sw σ c i v 83 = σ 83 from ra_su_ne _ _ (Ne.symm k1), show ra_sw σ c i v 84 = σ 84 from ra_su_ne _ _ (Ne.symm k2), show ra_sw σ c i v 89 = σ 89 from ra_su_ne _ _ (Ne.symm k3), show ra_sw σ c i v 90 = σ 90 from ra_su_ne _ _ (Ne.symm k4), show ra_sw σ c i v 100 = σ 100 from ra_su_ne _ _ (Ne.symm k5), show ra_sw σ c i v 103 = σ 103 from ra_su_ne _ _ (Ne.symm k6), show ra_sw σ c i v 104 = σ 104 from ra_su_ne _ _ (Ne.symm k7), show ra_sw σ c i v 105 = σ 105 from ra_su_ne _ _ (Ne.symm k8)]
  have e : ∀ j, j = 7 ∨ j = 22 → ra_sw σ c i v 82 j = σ 82 j := by
    intro j hj
    rw [sw_at]
    split
    · next e =>
      have := h2 e.symm
      rw [if_neg (by omega), ← e]
    · rfl
  rw [e 7 (Or.inl rfl), e 22 (Or.inr rfl)]
  exact h
def sp_N_claim (a : Ab) (b : Bb) : ra_Sp := ra_f2 82 (fun x v σ Z => rn_A a b σ ∧ ∀ σ', rn_A a (bb_claim b x v).1 σ' → ra_lo σ σ' → Z (some (.int (bb_claim b x v).2)) σ')
theorem q_N_claim {a : Ab} {b : Bb} {oo : Nat} {x v : Int32} {σ : ra_St} {Z : ra_R} : sp_N_claim a b [.ref oo, .int x, .int v] σ Z = (oo = 82 ∧ (rn_A a b σ ∧ ∀ σ', rn_A a (bb_claim b x v).1 σ' → ra_lo σ σ' → Z (some (.int (bb_claim b x v).2)) σ')) := rfl
theorem k_N_claim {l : Launch} {X : ra_X} {a : Ab} {b : Bb} : ra_MOK l X mi_N_claim (sp_N_claim a b) := by
  refine g_N_claim k_N_isEight k_N_in (sp_N_claim a b) ?_
  intro as σ Z _ _ h
  obtain ⟨x, v, rfl, hA, hZ⟩ := x_f2 h
  by_cases hy : an_in x 7 ∧ -1 ≤ v ∧ v ≤ 999
  · obtain ⟨x, hx, rfl⟩ := an_in_of hy.1 (by decide)
    rw [bb_claim_yes hx hy.2] at hZ
    obtain ⟨k1, k2, k3, k4⟩ := hA.2
    simp (disch := omega) only [b_N_claim_21, b_N_claim_18, b_N_claim_7, b_N_claim_0, e_al0, e_il1, e_il2, e_il3, e_is3i, e_is3r, e_is3n, e_c, e_b1, e_gr, e_ald, e_ast, e_ir, e_cs3, e_cs1, e_c10, e_c1i, e_c1r, e_sh0, e_sh1, e_sh2, e_sh3, e_sh4, e_tls, e_tln, e_tl0, e_tl1, cl_82, cl_91, ln_91, tg_82_10, q_N_isEight, q_N_in, Nat.reduceAdd, true_and, and_true, true_implies, not_true_eq_false, false_implies, not_false_eq_true, imp_self, forall_const, List.append_nil, ra_I, ra_J, ra_pad, true_or, or_true, Nat.reduceEqDiff, ra_bz, eq_self, if_true, if_false, false_and, and_false, Nat.zero_le, List.cons_append, List.nil_append, Nat.reduceLT, Nat.reduceLeDiff, Nat.reduceMul, Nat.reduceSub, n_0, n_1, n_2, n_3, n_4, n_5, n_6, n_7, n_8, n_9, n_10, n_12, n_40, n_48, n_57, n_59, n_72, n_99, n_102, n_103, n_107, n_108, n_192, n_255, n_256, n_999, n_1000, n_104, nI_add, pk_mul, n_cl, n_inT, n_le, n_lt, n_eq, n_m1, n_m1', n_lem1, n_m1le, n_ltm1, n_m1lt, n_lepred, n_shl, fa_or, k1 x (by omega)]
    refine ⟨fun _ => ⟨fun _ => hZ _ ⟨hA.1.sw (by decide) (fun q => by omega), fun i hi => ?_, ?_⟩ (ra_lo.rf.sw (by decide)), fun q => absurd hy.2 q⟩, fun q => absurd hy.1 q⟩
    · by_cases e : i = x
      · subst e; simp [sw_at, bb_u]
      · simpa [sw_at, bb_u, e] using k1 i hi
    · simpa [sw_at, bb_u] using ⟨k2, k3, k4⟩
  · rw [bb_claim_no hy] at hZ
    have h9 := hZ σ hA ra_lo.rf
    simp (disch := omega) only [b_N_claim_18, b_N_claim_7, b_N_claim_0, e_al0, e_il1, e_il2, e_il3, e_is3i, e_is3r, e_is3n, e_c, e_b1, e_gr, e_ald, e_ast, e_ir, e_cs3, e_cs1, e_c10, e_c1i, e_c1r, e_sh0, e_sh1, e_sh2, e_sh3, e_sh4, e_tls, e_tln, e_tl0, e_tl1, cl_82, cl_91, ln_91, tg_82_10, q_N_isEight, q_N_in, Nat.reduceAdd, true_and, and_true, true_implies, not_true_eq_false, false_implies, not_false_eq_true, imp_self, forall_const, List.append_nil, ra_I, ra_J, ra_pad, true_or, or_true, Nat.reduceEqDiff, ra_bz, eq_self, if_true, if_false, false_and, and_false, Nat.zero_le, List.cons_append, List.nil_append, Nat.reduceLT, Nat.reduceLeDiff, Nat.reduceMul, Nat.reduceSub, n_0, n_1, n_2, n_3, n_4, n_5, n_6, n_7, n_8, n_9, n_10, n_12, n_40, n_48, n_57, n_59, n_72, n_99, n_102, n_103, n_107, n_108, n_192, n_255, n_256, n_999, n_1000, n_104, nI_add, pk_mul, n_cl, n_inT, n_le, n_lt, n_eq, n_m1, n_m1', n_lem1, n_m1le, n_ltm1, n_m1lt, n_lepred, n_shl, fa_or]
    exact ⟨fun q => ⟨fun q2 => absurd ⟨q, q2⟩ hy, fun _ => h9⟩, fun _ => h9⟩
noncomputable def li (a : Ab) (b : Bb) : Nat → Nat
  | 0 => 0
  | h + 1 => if b 0 h ≠ -1 ∧ b 0 h ≠ nI ((sm a (ab_te a) (a 3 0)).2.2.1 h) then li a b h ||| 2 ^ h else li a b h
theorem li_lt {a : Ab} {b : Bb} : ∀ r, li a b r < 2 ^ r
  | 0 => Nat.zero_lt_one
  | r + 1 => by
    have h := li_lt (a := a) (b := b) r
    have h2 : 2 ^ (r + 1) = 2 ^ r * 2 := Nat.pow_succ 2 r
    rw [li]
    split
    · exact Nat.or_lt_two_pow (by omega) (by omega)
    · omega
def sp_N_liarsNow (a : Ab) (b : Bb) : ra_Sp := ra_f0 82 (fun σ Z => rn_A a b σ ∧ ∀ σ', rn_P a σ' → ra_fr rn_scr σ σ' → Z (some (.int (nI (li a b (ab_hc a))))) σ')
theorem q_N_liarsNow {a : Ab} {b : Bb} {oo : Nat} {σ : ra_St} {Z : ra_R} : sp_N_liarsNow a b [.ref oo] σ Z = (oo = 82 ∧ (rn_A a b σ ∧ ∀ σ', rn_P a σ' → ra_fr rn_scr σ σ' → Z (some (.int (nI (li a b (ab_hc a))))) σ')) := rfl
def I_N_liarsNow (a : Ab) (b : Bb) (Z : ra_R) (as : List Value) (σ0 : ra_St) (t : Nat) (μ : ra_M) : ra_K := fun L S σ => S = [] ∧ as = [.ref 82] ∧ ∃ h : Nat, h ≤ ab_hc a ∧ rn_A a b σ ∧ rn_P a σ ∧ rn_M a (sm a (ab_te a) (a 3 0)) σ ∧ ra_fr rn_scr σ0 σ ∧ μ = (ab_hc a - h, 0, 0) ∧ L = [.ref 82, .int (nI (li a b h)), .int (nI h)]
theorem k_N_liarsNow {l : Launch} {X : ra_X} {a : Ab} {b : Bb} (hW : ab_W a) : ra_MOK l X mi_N_liarsNow (sp_N_liarsNow a b) := by
  have h8 := ab_hc_8 a
  have hr12 := hW.2.2.2.2.1
  refine g_N_liarsNow (k_N_lays hW) (sp_N_liarsNow a b) (I_N_liarsNow a b) ?_ ?_
  · intro as σ Z _ _ h
    obtain ⟨rfl, hA, hZ⟩ := x_f0 h
    simp (disch := omega) only [b_N_liarsNow_61, b_N_liarsNow_53, b_N_liarsNow_52, b_N_liarsNow_46, b_N_liarsNow_31, b_N_liarsNow_20, b_N_liarsNow_12, b_N_liarsNow_0, e_il1, e_il2, e_al0, e_is1i, e_is1r, e_is1n, e_is2i, e_is2r, e_is2n, e_inc2i, e_inc2r, e_inc2n, e_c, e_i2, e_b2, e_gi, e_gr, e_ald, e_ir, e_cv2, e_hd, e_c10, e_c1i, e_c1r, e_sh0, e_sh1, e_sh2, e_sh3, e_sh4, e_tls, e_tln, e_tl0, e_tl1, cl_82, cl_91, ln_91, cl_95, ln_95, tg_82_10, tg_82_14, q_N_lays, Nat.reduceAdd, true_and, and_true, true_implies, not_true_eq_false, false_implies, not_false_eq_true, imp_self, forall_const, List.append_nil, ra_I, ra_J, ra_pad, true_or, or_true, Nat.reduceEqDiff, ra_bz, eq_self, if_true, if_false, false_and, and_false, Nat.zero_le, List.cons_append, List.nil_append, Nat.reduceLT, Nat.reduceLeDiff, Nat.reduceMul, Nat.reduceSub, n_0, n_1, n_2, n_3, n_4, n_5, n_6, n_7, n_8, n_9, n_10, n_12, n_40, n_48, n_57, n_59, n_72, n_99, n_102, n_103, n_107, n_108, n_192, n_255, n_256, n_999, n_1000, n_104, nI_add, pk_mul, n_cl, n_inT, n_le, n_lt, n_eq, n_m1, n_m1', n_lem1, n_m1le, n_ltm1, n_m1lt, n_lepred, n_shl, fa_or, hA.1.2.1]
    refine ⟨hA.1, an_in_nI (Nat.le_refl _) (by omega), fun σ1 g1 g2 g3 => ⟨_, rfl, rfl, 0, by omega, hA.fr g3 (by decide), g2, ?_, g3, rfl, rfl⟩⟩
    first | exact g1 | (rw [n_cl (by omega)] at g1; exact g1)
  · intro as σ0 Z h0 μ L S σ hI
    obtain ⟨rfl, rfl, h, hh, hA, hP, hM, hf, rfl, rfl⟩ := hI
    obtain ⟨-, hA0, hZ⟩ := x_f0 h0
    by_cases hlt : h < ab_hc a
    · have e1 := hA.2.1 h (by omega)
      have e2 := (hM h hlt).2.2.1
      simp (disch := omega) only [b_N_liarsNow_61, b_N_liarsNow_53, b_N_liarsNow_52, b_N_liarsNow_46, b_N_liarsNow_31, b_N_liarsNow_20, b_N_liarsNow_12, b_N_liarsNow_0, e_il1, e_il2, e_al0, e_is1i, e_is1r, e_is1n, e_is2i, e_is2r, e_is2n, e_inc2i, e_inc2r, e_inc2n, e_c, e_i2, e_b2, e_gi, e_gr, e_ald, e_ir, e_cv2, e_hd, e_c10, e_c1i, e_c1r, e_sh0, e_sh1, e_sh2, e_sh3, e_sh4, e_tls, e_tln, e_tl0, e_tl1, cl_82, cl_91, ln_91, cl_95, ln_95, tg_82_10, tg_82_14, q_N_lays, Nat.reduceAdd, true_and, and_true, true_implies, not_true_eq_false, false_implies, not_false_eq_true, imp_self, forall_const, List.append_nil, ra_I, ra_J, ra_pad, true_or, or_true, Nat.reduceEqDiff, ra_bz, eq_self, if_true, if_false, false_and, and_false, Nat.zero_le, List.cons_append, List.nil_append, Nat.reduceLT, Nat.reduceLeDiff, Nat.reduceMul, Nat.reduceSub, n_0, n_1, n_2, n_3, n_4, n_5, n_6, n_7, n_8, n_9, n_10, n_12, n_40, n_48, n_57, n_59, n_72, n_99, n_102, n_103, n_107, n_108, n_192, n_255, n_256, n_999, n_1000, n_104, nI_add, pk_mul, n_cl, n_inT, n_le, n_lt, n_eq, n_m1, n_m1', n_lem1, n_m1le, n_ltm1, n_m1lt, n_lepred, n_shl, fa_or, hP.1.1, e1, e2]
      have go : ∀ y : Nat, y = li a b (h + 1) → ∃ μ', ra_lx μ' (ab_hc a - h, 0, 0) ∧ I_N_liarsNow a b Z [.ref 82] σ0 12 μ' [.ref 82, .int (nI y), .int (nI (h + 1))] [] σ := by
        intro y hy
        rw [hy]
        exact ⟨(ab_hc a - (h + 1), 0, 0), lx1 (by omega), rfl, rfl, h + 1, by omega, hA, hP, hM, hf, rfl, rfl⟩
      refine ⟨fun q => by omega, fun _ => ⟨fun q => go _ ?_, fun q => ⟨fun q2 => go _ ?_, fun q2 => go _ ?_⟩⟩⟩
      · rw [li, if_neg (fun z => z.1 q), Nat.or_zero]
      · rw [li, if_neg (fun z => z.2 q2), Nat.or_zero]
      · rw [li, if_pos ⟨q, q2⟩]
    · simp (disch := omega) only [b_N_liarsNow_61, b_N_liarsNow_53, b_N_liarsNow_52, b_N_liarsNow_46, b_N_liarsNow_31, b_N_liarsNow_12, b_N_liarsNow_0, e_il1, e_il2, e_al0, e_is1i, e_is1r, e_is1n, e_is2i, e_is2r, e_is2n, e_inc2i, e_inc2r, e_inc2n, e_c, e_i2, e_b2, e_gi, e_gr, e_ald, e_ir, e_cv2, e_hd, e_c10, e_c1i, e_c1r, e_sh0, e_sh1, e_sh2, e_sh3, e_sh4, e_tls, e_tln, e_tl0, e_tl1, cl_82, cl_91, ln_91, cl_95, ln_95, tg_82_10, tg_82_14, q_N_lays, Nat.reduceAdd, true_and, and_true, true_implies, not_true_eq_false, false_implies, not_false_eq_true, imp_self, forall_const, List.append_nil, ra_I, ra_J, ra_pad, true_or, or_true, Nat.reduceEqDiff, ra_bz, eq_self, if_true, if_false, false_and, and_false, Nat.zero_le, List.cons_append, List.nil_append, Nat.reduceLT, Nat.reduceLeDiff, Nat.reduceMul, Nat.reduceSub, n_0, n_1, n_2, n_3, n_4, n_5, n_6, n_7, n_8, n_9, n_10, n_12, n_40, n_48, n_57, n_59, n_72, n_99, n_102, n_103, n_107, n_108, n_192, n_255, n_256, n_999, n_1000, n_104, nI_add, pk_mul, n_cl, n_inT, n_le, n_lt, n_eq, n_m1, n_m1', n_lem1, n_m1le, n_ltm1, n_m1lt, n_lepred, n_shl, fa_or, hP.1.1]
      refine ⟨fun _ => ?_, fun q => by omega⟩
      rw [show h = ab_hc a by omega]
      exact hZ σ hP hf
def sp_N_liars (a : Ab) (b : Bb) : ra_Sp := ra_f0 82 (fun σ Z => rn_A a b σ ∧ ∀ σ', ra_fr rn_scr σ σ' → Z (some (.int (nI (li a b (ab_hc a))))) σ')
theorem q_N_liars {a : Ab} {b : Bb} {oo : Nat} {σ : ra_St} {Z : ra_R} : sp_N_liars a b [.ref oo] σ Z = (oo = 82 ∧ (rn_A a b σ ∧ ∀ σ', ra_fr rn_scr σ σ' → Z (some (.int (nI (li a b (ab_hc a))))) σ')) := rfl
theorem k_N_liars {l : Launch} {X : ra_X} {a : Ab} {b : Bb} (hW : ab_W a) : ra_MOK l X mi_N_liars (sp_N_liars a b) := by
  refine g_N_liars (k_N_liarsNow (b := b) hW) (sp_N_liars a b) ?_
  intro as σ Z _ _ h
  obtain ⟨rfl, hA, hZ⟩ := x_f0 h
  simp (disch := omega) only [b_N_liars_0, e_al0, e_ir, e_cv1, e_hd, e_c10, e_c1i, e_c1r, e_sh0, e_sh1, e_sh2, e_sh3, e_sh4, e_tls, e_tln, e_tl0, e_tl1, cl_82, q_N_liarsNow, Nat.reduceAdd, true_and, and_true, true_implies, not_true_eq_false, false_implies, not_false_eq_true, imp_self, forall_const, List.append_nil, ra_I, ra_J, ra_pad, true_or, or_true, Nat.reduceEqDiff, ra_bz, eq_self, if_true, if_false, false_and, and_false, Nat.zero_le, List.cons_append, List.nil_append, Nat.reduceLT, Nat.reduceLeDiff, Nat.reduceMul, Nat.reduceSub, n_0, n_1, n_2, n_3, n_4, n_5, n_6, n_7, n_8, n_9, n_10, n_12, n_40, n_48, n_57, n_59, n_72, n_99, n_102, n_103, n_107, n_108, n_192, n_255, n_256, n_999, n_1000, n_104, nI_add, pk_mul, n_cl, n_in, n_le, n_lt, n_eq, n_m1, n_m1', n_lem1, n_m1le, n_ltm1, n_m1lt, n_lepred, n_shl, fa_or]
  exact ⟨hA, fun σ' _ g => hZ σ' g⟩
def sp_N_isSheet  : ra_Sp := ra_s1 (fun x σ Z => ra_bz (an_in x 3) Z σ)
theorem q_N_isSheet  {x : Int32} {σ : ra_St} {Z : ra_R} : sp_N_isSheet  [.int x] σ Z = (ra_bz (an_in x 3) Z σ) := rfl
theorem k_N_isSheet {l : Launch} {X : ra_X} : ra_MOK l X mi_N_isSheet sp_N_isSheet := by
  refine g_N_isSheet k_N_in sp_N_isSheet ?_
  intro as σ Z _ _ h
  obtain ⟨x, rfl, hZ⟩ := x_s1 h
  simp (disch := omega) only [b_N_isSheet_0, e_il0, e_c, e_zr, e_cs3, e_c10, e_c1i, e_c1r, e_sh0, e_sh1, e_sh2, e_sh3, e_sh4, e_tls, e_tln, e_tl0, e_tl1, q_N_in, Nat.reduceAdd, true_and, and_true, true_implies, not_true_eq_false, false_implies, not_false_eq_true, imp_self, forall_const, List.append_nil, ra_I, ra_J, ra_pad, true_or, or_true, Nat.reduceEqDiff, ra_bz, eq_self, if_true, if_false, false_and, and_false, Nat.zero_le, List.cons_append, List.nil_append, Nat.reduceLT, Nat.reduceLeDiff, Nat.reduceMul, Nat.reduceSub, n_0, n_1, n_2, n_3, n_4, n_5, n_6, n_7, n_8, n_9, n_10, n_12, n_40, n_48, n_57, n_59, n_72, n_99, n_102, n_103, n_107, n_108, n_192, n_255, n_256, n_999, n_1000, n_104, nI_add, pk_mul, n_cl, n_in, n_le, n_lt, n_eq, n_m1, n_m1', n_lem1, n_m1le, n_ltm1, n_m1lt, n_lepred, n_shl, fa_or]
  exact hZ
def sp_N_meets  : ra_Sp := ra_f1 82 (fun x σ Z => Z (some (.int (-10 - x))) (ra_sw σ 82 33 x))
theorem q_N_meets  {oo : Nat} {x : Int32} {σ : ra_St} {Z : ra_R} : sp_N_meets  [.ref oo, .int x] σ Z = (oo = 82 ∧ (Z (some (.int (-10 - x))) (ra_sw σ 82 33 x))) := rfl
theorem k_N_meets {l : Launch} {X : ra_X} : ra_MOK l X mi_N_meets sp_N_meets := by
  refine g_N_meets sp_N_meets ?_
  intro as σ Z _ _ h
  obtain ⟨x, rfl, hZ⟩ := x_f1 h
  simp (disch := omega) only [b_N_meets_0, e_al0, e_il1, e_c, e_i2, e_pi, e_ir, cl_82, Nat.reduceAdd, true_and, and_true, true_implies, not_true_eq_false, false_implies, not_false_eq_true, imp_self, forall_const, List.append_nil, ra_I, ra_J, ra_pad, true_or, or_true, Nat.reduceEqDiff, ra_bz, eq_self, if_true, if_false, false_and, and_false, Nat.zero_le, List.cons_append, List.nil_append, Nat.reduceLT, Nat.reduceLeDiff, Nat.reduceMul, Nat.reduceSub]
  exact hZ
theorem rn_A.met {a : Ab} {b : Bb} {σ : ra_St} {x : Int32} (h : rn_A a b σ) : rn_A a (bb_u b 5 0 x) (ra_sw σ 82 33 x) := by
  refine ⟨h.1.sw (by decide) (fun _ => by decide), ?_⟩
  obtain ⟨k1, k2, k3, k4⟩ := h.2
  unfold rn_Q
  simpa [sw_at, bb_u] using ⟨k1, k2, k3⟩
def bb_lk (b : Bb) (s : Nat) (f i : Int32) : Int32 := if b 1 s = 0 then 1 else if b 2 s = f then (if 0 ≤ i ∧ i ≤ b 3 s - 1 then 0 else 2) else 3
def sp_N_lacks (b : Bb) : ra_Sp := ra_f3 82 (fun s f i σ Z => rn_Q b σ ∧ vp_in s 4 ∧ Z (some (.int (bb_lk b s.toNatClampNeg f i))) σ)
theorem q_N_lacks {b : Bb} {oo : Nat} {s f i : Int32} {σ : ra_St} {Z : ra_R} : sp_N_lacks b [.ref oo, .int s, .int f, .int i] σ Z = (oo = 82 ∧ (rn_Q b σ ∧ vp_in s 4 ∧ Z (some (.int (bb_lk b s.toNatClampNeg f i))) σ)) := rfl
theorem k_N_lacks {l : Launch} {X : ra_X} {b : Bb} : ra_MOK l X mi_N_lacks (sp_N_lacks b) := by
  refine g_N_lacks k_N_in (sp_N_lacks b) ?_
  intro as σ Z _ _ h
  obtain ⟨s, f, i, rfl, hQ, hs, hZ⟩ := x_f3 h
  obtain ⟨s, hs2, rfl⟩ := vp_in_of hs (by decide)
  rw [n_cl (by omega)] at hZ
  obtain ⟨e1, e2, e3⟩ := hQ.2.1 s hs2
  unfold bb_lk at hZ
  simp (disch := omega) only [b_N_lacks_48, b_N_lacks_47, b_N_lacks_43, b_N_lacks_27, b_N_lacks_23, b_N_lacks_13, b_N_lacks_9, b_N_lacks_0, e_il3, e_al0, e_il1, e_il2, e_c, e_i2, e_b1, e_b2, e_gr, e_ald, e_zld, e_ir, e_cs3, e_c10, e_c1i, e_c1r, e_sh0, e_sh1, e_sh2, e_sh3, e_sh4, e_tls, e_tln, e_tl0, e_tl1, cl_82, cl_108, ln_108, cl_109, ln_109, cl_110, ln_110, tg_82_28, tg_82_29, tg_82_30, q_N_in, Nat.reduceAdd, true_and, and_true, true_implies, not_true_eq_false, false_implies, not_false_eq_true, imp_self, forall_const, List.append_nil, ra_I, ra_J, ra_pad, true_or, or_true, Nat.reduceEqDiff, ra_bz, eq_self, if_true, if_false, false_and, and_false, Nat.zero_le, List.cons_append, List.nil_append, Nat.reduceLT, Nat.reduceLeDiff, Nat.reduceMul, Nat.reduceSub, n_0, n_1, n_2, n_3, n_4, n_5, n_6, n_7, n_8, n_9, n_10, n_12, n_40, n_48, n_57, n_59, n_72, n_99, n_102, n_103, n_107, n_108, n_192, n_255, n_256, n_999, n_1000, n_104, nI_add, pk_mul, n_cl, n_inT, n_le, n_lt, n_eq, n_m1, n_m1', n_lem1, n_m1le, n_ltm1, n_m1lt, n_lepred, n_shl, fa_or, e1, e2, e3]
  refine ⟨fun q => ?_, fun q => ⟨fun q2 => ⟨fun q3 => ?_, fun q3 => ?_⟩, fun q2 => ?_⟩⟩
  · rw [if_pos (show b 1 s = 0 from q)] at hZ; exact hZ
  · rw [if_neg (show ¬ b 1 s = 0 from q), if_pos q2, if_pos (show 0 ≤ i ∧ i ≤ b 3 s - 1 from q3)] at hZ; exact hZ
  · rw [if_neg (show ¬ b 1 s = 0 from q), if_pos q2, if_neg (show ¬ (0 ≤ i ∧ i ≤ b 3 s - 1) from q3)] at hZ; exact hZ
  · rw [if_neg (show ¬ b 1 s = 0 from q), if_neg q2] at hZ; exact hZ
def bb_cv (f v : Int32) : Int32 := if f = 0 then v.toInt8.toInt32 else if f = 1 then v.toInt16.toInt32 else v
def sp_N_keep  : ra_Sp := ra_f3 82 (fun s i v σ Z => vp_in s 4 ∧ vp_in i 48 ∧ Z none (ra_sw σ 111 (48 * s.toNatClampNeg + i.toNatClampNeg) (bb_cv (σ 109 s.toNatClampNeg) v)))
theorem q_N_keep  {oo : Nat} {s i v : Int32} {σ : ra_St} {Z : ra_R} : sp_N_keep  [.ref oo, .int s, .int i, .int v] σ Z = (oo = 82 ∧ (vp_in s 4 ∧ vp_in i 48 ∧ Z none (ra_sw σ 111 (48 * s.toNatClampNeg + i.toNatClampNeg) (bb_cv (σ 109 s.toNatClampNeg) v)))) := rfl
theorem k_N_keep {l : Launch} {X : ra_X} : ra_MOK l X mi_N_keep sp_N_keep := by
  refine g_N_keep sp_N_keep ?_
  intro as σ Z _ _ h
  obtain ⟨s, i, v, rfl, hs, hi, hZ⟩ := x_f3 h
  obtain ⟨s, hs2, rfl⟩ := vp_in_of hs (by decide)
  obtain ⟨i, hi2, rfl⟩ := vp_in_of hi (by decide)
  rw [n_cl (by omega), n_cl (by omega)] at hZ
  unfold bb_cv at hZ
  simp (disch := omega) only [b_N_keep_40, b_N_keep_39, b_N_keep_34, b_N_keep_24, b_N_keep_19, b_N_keep_0, e_il3, e_al0, e_il1, e_il2, e_c, e_i2, e_i1, e_b1, e_b2, e_gr, e_ald, e_ast, e_vr, cl_82, cl_109, ln_109, cl_111, ln_111, tg_82_29, tg_82_31, Nat.reduceAdd, true_and, and_true, true_implies, not_true_eq_false, false_implies, not_false_eq_true, imp_self, forall_const, List.append_nil, ra_I, ra_J, ra_pad, true_or, or_true, Nat.reduceEqDiff, ra_bz, eq_self, if_true, if_false, false_and, and_false, Nat.zero_le, List.cons_append, List.nil_append, Nat.reduceLT, Nat.reduceLeDiff, Nat.reduceMul, Nat.reduceSub, n_0, n_1, n_2, n_3, n_4, n_5, n_6, n_7, n_8, n_9, n_10, n_12, n_40, n_48, n_57, n_59, n_72, n_99, n_102, n_103, n_107, n_108, n_192, n_255, n_256, n_999, n_1000, n_104, nI_add, pk_mul, n_cl, n_inT, n_le, n_lt, n_eq, n_m1, n_m1', n_lem1, n_m1le, n_ltm1, n_m1lt, n_lepred, n_shl, fa_or]
  refine ⟨fun q => ?_, fun q => ⟨fun q2 => ?_, fun q2 => ?_⟩⟩
  · rw [if_pos (show σ 109 s = 0 from q)] at hZ; exact hZ
  · rw [if_neg (show ¬ σ 109 s = 0 from q), if_pos (show σ 109 s = 1 from q2)] at hZ; exact hZ
  · rw [if_neg (show ¬ σ 109 s = 0 from q), if_neg (show ¬ σ 109 s = 1 from q2)] at hZ; exact hZ
def bb_new (b : Bb) (s : Nat) (f n : Int32) : Bb := fun p q => if p = 1 ∧ q = s then 1 else if p = 2 ∧ q = s then f else if p = 3 ∧ q = s then n else if p = 4 ∧ 48 * s ≤ q ∧ q < 48 * s + 48 then 0 else b p q
noncomputable def bb_sheet (b : Bb) (s f n : Int32) : Bb × Int32 := by
  classical
  exact if an_in s 3 ∧ an_in f 2 ∧ n ≤ 48 then (if n < 0 then (bb_u b 5 0 5, -15) else (bb_new b s.toNatClampNeg f n, n)) else (b, -2)
def sp_N_sheet (a : Ab) (b : Bb) : ra_Sp := ra_f3 82 (fun s f n σ Z => rn_A a b σ ∧ ∀ σ', rn_A a (bb_sheet b s f n).1 σ' → ra_lo σ σ' → Z (some (.int (bb_sheet b s f n).2)) σ')
theorem q_N_sheet {a : Ab} {b : Bb} {oo : Nat} {s f n : Int32} {σ : ra_St} {Z : ra_R} : sp_N_sheet a b [.ref oo, .int s, .int f, .int n] σ Z = (oo = 82 ∧ (rn_A a b σ ∧ ∀ σ', rn_A a (bb_sheet b s f n).1 σ' → ra_lo σ σ' → Z (some (.int (bb_sheet b s f n).2)) σ')) := rfl
def I_N_sheet (a : Ab) (b : Bb) (Z : ra_R) (as : List Value) (σ0 : ra_St) (t : Nat) (μ : ra_M) : ra_K := fun L S σ => S = [] ∧ ∃ (s i : Nat) (f n : Int32), as = [.ref 82, .int (nI s), .int f, .int n] ∧ s ≤ 3 ∧ an_in f 2 ∧ n ≤ 48 ∧ ¬ n < 0 ∧ i ≤ 48 ∧ rn_R a σ ∧ (∀ h, h < 8 → σ 91 h = b 0 h) ∧ (∀ j, j < 4 → σ 108 j = bb_new b s f n 1 j ∧ σ 109 j = bb_new b s f n 2 j ∧ σ 110 j = bb_new b s f n 3 j) ∧ (∀ q, q < 192 → σ 111 q = if 48 * s ≤ q ∧ q < 48 * s + i then 0 else b 4 q) ∧ σ 82 33 = b 5 0 ∧ ra_lo σ0 σ ∧ μ = (48 - i, 0, 0) ∧ L = [.ref 82, .int (nI s), .int f, .int n, .int (nI i)]
theorem k_N_sheet {l : Launch} {X : ra_X} {a : Ab} {b : Bb} : ra_MOK l X mi_N_sheet (sp_N_sheet a b) := by
  refine g_N_sheet k_N_isSheet k_N_in k_N_meets (sp_N_sheet a b) (I_N_sheet a b) ?_ ?_
  · intro as σ Z _ _ h
    obtain ⟨s, f, n, rfl, hA, hZ⟩ := x_f3 h
    by_cases hy : an_in s 3 ∧ an_in f 2 ∧ n ≤ 48
    · obtain ⟨s, hs, rfl⟩ := an_in_of hy.1 (by decide)
      have e : bb_sheet b (nI s) f n = if n < 0 then (bb_u b 5 0 5, -15) else (bb_new b s f n, n) := by
        unfold bb_sheet
        rw [if_pos hy, n_cl (by omega)]
      rw [e] at hZ
      by_cases hn : n < 0
      · rw [if_pos hn] at hZ
        have h9 := hZ _ hA.met ((ra_lo.rf (σ := σ)).sw (by decide))
        simp (disch := omega) only [b_N_sheet_85, b_N_sheet_66, b_N_sheet_59, b_N_sheet_29, b_N_sheet_25, b_N_sheet_22, b_N_sheet_16, b_N_sheet_7, b_N_sheet_0, e_il3, e_al0, e_il1, e_il4, e_il2, e_is4i, e_is4r, e_is4n, e_inc4i, e_inc4r, e_inc4n, e_c, e_i2, e_b1, e_b2, e_gr, e_ast, e_zst, e_ir, e_cs3, e_cs1, e_cv2, e_hd, e_c10, e_c1i, e_c1r, e_sh0, e_sh1, e_sh2, e_sh3, e_sh4, e_tls, e_tln, e_tl0, e_tl1, cl_82, cl_108, ln_108, cl_109, ln_109, cl_110, ln_110, cl_111, ln_111, tg_82_28, tg_82_29, tg_82_30, tg_82_31, q_N_isSheet, q_N_in, q_N_meets, Nat.reduceAdd, true_and, and_true, true_implies, not_true_eq_false, false_implies, not_false_eq_true, imp_self, forall_const, List.append_nil, ra_I, ra_J, ra_pad, true_or, or_true, Nat.reduceEqDiff, ra_bz, eq_self, if_true, if_false, false_and, and_false, Nat.zero_le, List.cons_append, List.nil_append, Nat.reduceLT, Nat.reduceLeDiff, Nat.reduceMul, Nat.reduceSub, n_0, n_1, n_2, n_3, n_4, n_5, n_6, n_7, n_8, n_9, n_10, n_12, n_40, n_48, n_57, n_59, n_72, n_99, n_102, n_103, n_107, n_108, n_192, n_255, n_256, n_999, n_1000, n_104, nI_add, pk_mul, n_cl, n_inT, n_le, n_lt, n_eq, n_m1, n_m1', n_lem1, n_m1le, n_ltm1, n_m1lt, n_lepred, n_shl, fa_or]
        refine ⟨fun _ => ⟨fun _ => ⟨fun _ => ⟨fun q => absurd q (fa_of_lt hn).2.1, fun _ => h9⟩, fun q => absurd hy.2.2 q⟩, fun q => absurd hy.2.1 q⟩, fun q => absurd hy.1 q⟩
      · simp (disch := omega) only [b_N_sheet_85, b_N_sheet_66, b_N_sheet_59, b_N_sheet_35, b_N_sheet_29, b_N_sheet_25, b_N_sheet_22, b_N_sheet_16, b_N_sheet_7, b_N_sheet_0, e_il3, e_al0, e_il1, e_il4, e_il2, e_is4i, e_is4r, e_is4n, e_inc4i, e_inc4r, e_inc4n, e_c, e_i2, e_b1, e_b2, e_gr, e_ast, e_zst, e_ir, e_cs3, e_cs1, e_cv2, e_hd, e_c10, e_c1i, e_c1r, e_sh0, e_sh1, e_sh2, e_sh3, e_sh4, e_tls, e_tln, e_tl0, e_tl1, cl_82, cl_108, ln_108, cl_109, ln_109, cl_110, ln_110, cl_111, ln_111, tg_82_28, tg_82_29, tg_82_30, tg_82_31, q_N_isSheet, q_N_in, q_N_meets, Nat.reduceAdd, true_and, and_true, true_implies, not_true_eq_false, false_implies, not_false_eq_true, imp_self, forall_const, List.append_nil, ra_I, ra_J, ra_pad, true_or, or_true, Nat.reduceEqDiff, ra_bz, eq_self, if_true, if_false, false_and, and_false, Nat.zero_le, List.cons_append, List.nil_append, Nat.reduceLT, Nat.reduceLeDiff, Nat.reduceMul, Nat.reduceSub, n_0, n_1, n_2, n_3, n_4, n_5, n_6, n_7, n_8, n_9, n_10, n_12, n_40, n_48, n_57, n_59, n_72, n_99, n_102, n_103, n_107, n_108, n_192, n_255, n_256, n_999, n_1000, n_104, nI_add, pk_mul, n_cl, n_inT, n_le, n_lt, n_eq, n_m1, n_m1', n_lem1, n_m1le, n_ltm1, n_m1lt, n_lepred, n_shl, fa_or]
        refine ⟨fun _ => ⟨fun _ => ⟨fun _ => ⟨fun q => ⟨(48 - 0, 0, 0), rfl, s, 0, f, n, rfl, hs, hy.2.1, hy.2.2, hn, by omega, ?_, ?_, fun j hj => ?_, ?_, ?_, ((ra_lo.rf.sw (by decide)).sw (by decide)).sw (by decide), rfl, rfl⟩, fun q => absurd (fa_of_nlt hn) q⟩, fun q => absurd hy.2.2 q⟩, fun q => absurd hy.2.1 q⟩, fun q => absurd hy.1 q⟩
        · exact ((hA.1.sw (by decide) (fun q => by omega)).sw (by decide) (fun q => by omega)).sw (by decide) (fun q => by omega)
        · simpa [sw_at] using hA.2.1
        · by_cases e : j = s
          · subst e; simp [sw_at, bb_new]; rfl
          · simpa [sw_at, bb_new, e] using hA.2.2.1 j hj
        · intro q hq
          rw [if_neg (by omega)]
          simpa [sw_at] using hA.2.2.2.1 q hq
        · simpa [sw_at] using hA.2.2.2.2
    · have e : bb_sheet b s f n = (b, -2) := by
        unfold bb_sheet
        exact if_neg hy
      rw [e] at hZ
      have h9 := hZ σ hA ra_lo.rf
      simp (disch := omega) only [b_N_sheet_85, b_N_sheet_66, b_N_sheet_59, b_N_sheet_35, b_N_sheet_29, b_N_sheet_22, b_N_sheet_16, b_N_sheet_7, b_N_sheet_0, e_il3, e_al0, e_il1, e_il4, e_il2, e_is4i, e_is4r, e_is4n, e_inc4i, e_inc4r, e_inc4n, e_c, e_i2, e_b1, e_b2, e_gr, e_ast, e_zst, e_ir, e_cs3, e_cs1, e_cv2, e_hd, e_c10, e_c1i, e_c1r, e_sh0, e_sh1, e_sh2, e_sh3, e_sh4, e_tls, e_tln, e_tl0, e_tl1, cl_82, cl_108, ln_108, cl_109, ln_109, cl_110, ln_110, cl_111, ln_111, tg_82_28, tg_82_29, tg_82_30, tg_82_31, q_N_isSheet, q_N_in, q_N_meets, Nat.reduceAdd, true_and, and_true, true_implies, not_true_eq_false, false_implies, not_false_eq_true, imp_self, forall_const, List.append_nil, ra_I, ra_J, ra_pad, true_or, or_true, Nat.reduceEqDiff, ra_bz, eq_self, if_true, if_false, false_and, and_false, Nat.zero_le, List.cons_append, List.nil_append, Nat.reduceLT, Nat.reduceLeDiff, Nat.reduceMul, Nat.reduceSub, n_0, n_1, n_2, n_3, n_4, n_5, n_6, n_7, n_8, n_9, n_10, n_12, n_40, n_48, n_57, n_59, n_72, n_99, n_102, n_103, n_107, n_108, n_192, n_255, n_256, n_999, n_1000, n_104, nI_add, pk_mul, n_cl, n_inT, n_le, n_lt, n_eq, n_m1, n_m1', n_lem1, n_m1le, n_ltm1, n_m1lt, n_lepred, n_shl, fa_or]
      exact ⟨fun q => ⟨fun q2 => ⟨fun q3 => absurd ⟨q, q2, q3⟩ hy, fun _ => h9⟩, fun _ => h9⟩, fun _ => h9⟩
  · intro as σ0 Z h0 μ L S σ hI
    obtain ⟨rfl, s, i, f, n, rfl, hs, hf, hn, hn0, hi, hR, g1, g2, g3, g4, hlo, rfl, rfl⟩ := hI
    obtain ⟨_, _, _, e, hA, hZ⟩ := x_f3 h0
    cases e
    have e : bb_sheet b (nI s) f n = (bb_new b s f n, n) := by
      unfold bb_sheet
      rw [if_pos ⟨an_in_nI hs (by decide), hf, hn⟩, if_neg hn0, n_cl (by omega)]
    rw [e] at hZ
    simp (disch := omega) only [b_N_sheet_85, b_N_sheet_66, b_N_sheet_59, b_N_sheet_35, b_N_sheet_29, b_N_sheet_25, b_N_sheet_22, b_N_sheet_16, b_N_sheet_7, b_N_sheet_0, e_il3, e_al0, e_il1, e_il4, e_il2, e_is4i, e_is4r, e_is4n, e_inc4i, e_inc4r, e_inc4n, e_c, e_i2, e_b1, e_b2, e_gr, e_ast, e_zst, e_ir, e_cs3, e_cs1, e_cv2, e_hd, e_c10, e_c1i, e_c1r, e_sh0, e_sh1, e_sh2, e_sh3, e_sh4, e_tls, e_tln, e_tl0, e_tl1, cl_82, cl_108, ln_108, cl_109, ln_109, cl_110, ln_110, cl_111, ln_111, tg_82_28, tg_82_29, tg_82_30, tg_82_31, q_N_isSheet, q_N_in, q_N_meets, Nat.reduceAdd, true_and, and_true, true_implies, not_true_eq_false, false_implies, not_false_eq_true, imp_self, forall_const, List.append_nil, ra_I, ra_J, ra_pad, true_or, or_true, Nat.reduceEqDiff, ra_bz, eq_self, if_true, if_false, false_and, and_false, Nat.zero_le, List.cons_append, List.nil_append, Nat.reduceLT, Nat.reduceLeDiff, Nat.reduceMul, Nat.reduceSub, n_0, n_1, n_2, n_3, n_4, n_5, n_6, n_7, n_8, n_9, n_10, n_12, n_40, n_48, n_57, n_59, n_72, n_99, n_102, n_103, n_107, n_108, n_192, n_255, n_256, n_999, n_1000, n_104, nI_add, pk_mul, n_cl, n_inT, n_le, n_lt, n_eq, n_m1, n_m1', n_lem1, n_m1le, n_ltm1, n_m1lt, n_lepred, n_shl, fa_or]
    refine ⟨fun q => hZ σ ⟨hR, ?_, g2, fun j hj => ?_, ?_⟩ hlo, fun q => ⟨vi (by omega) (by decide), (48 - (i + 1), 0, 0), lx1 (by omega), rfl, s, i + 1, f, n, rfl, hs, hf, hn, hn0, by omega, hR.sw (by decide) (fun q => by omega), ?_, ?_, fun j hj => ?_, ?_, hlo.sw (by decide), rfl, rfl⟩⟩
    · simpa [bb_new] using g1
    · have h9 := g3 j hj
      rw [show i = 48 by omega] at h9
      simpa [bb_new] using h9
    · simpa [bb_new] using g4
    · simpa [sw_at] using g1
    · simpa [sw_at] using g2
    · rw [sw_at, if_pos rfl]
      by_cases e : j = 48 * s + i
      · rw [if_pos e, if_pos (by omega)]
        rfl
      · rw [if_neg e, g3 j hj]
        by_cases e2 : 48 * s ≤ j ∧ j < 48 * s + i
        · rw [if_pos e2, if_pos (by omega)]
        · rw [if_neg e2, if_neg (by omega)]
    · simpa [sw_at] using g4
noncomputable def bb_lose (b : Bb) (s : Int32) : Bb × Int32 := by
  classical
  exact if an_in s 3 then (if b 1 s.toNatClampNeg = 0 then (bb_u b 5 0 1, -11) else (bb_u b 1 s.toNatClampNeg 0, b 3 s.toNatClampNeg)) else (b, -2)
def sp_N_lose (a : Ab) (b : Bb) : ra_Sp := ra_f1 82 (fun s σ Z => rn_A a b σ ∧ ∀ σ', rn_A a (bb_lose b s).1 σ' → ra_lo σ σ' → Z (some (.int (bb_lose b s).2)) σ')
theorem q_N_lose {a : Ab} {b : Bb} {oo : Nat} {s : Int32} {σ : ra_St} {Z : ra_R} : sp_N_lose a b [.ref oo, .int s] σ Z = (oo = 82 ∧ (rn_A a b σ ∧ ∀ σ', rn_A a (bb_lose b s).1 σ' → ra_lo σ σ' → Z (some (.int (bb_lose b s).2)) σ')) := rfl
theorem k_N_lose {l : Launch} {X : ra_X} {a : Ab} {b : Bb} : ra_MOK l X mi_N_lose (sp_N_lose a b) := by
  refine g_N_lose k_N_isSheet k_N_meets (sp_N_lose a b) ?_
  intro as σ Z _ _ h
  obtain ⟨s, rfl, hA, hZ⟩ := x_f1 h
  by_cases hy : an_in s 3
  · obtain ⟨s, hs, rfl⟩ := an_in_of hy (by decide)
    have e : bb_lose b (nI s) = if b 1 s = 0 then (bb_u b 5 0 1, -11) else (bb_u b 1 s 0, b 3 s) := by
      unfold bb_lose
      rw [if_pos hy, n_cl (by omega)]
    rw [e] at hZ
    obtain ⟨k1, k2, k3, k4⟩ := hA.2
    obtain ⟨e1, e2, e3⟩ := k2 s (by omega)
    simp (disch := omega) only [b_N_lose_25, b_N_lose_19, b_N_lose_10, b_N_lose_7, b_N_lose_0, e_al0, e_il1, e_c, e_b1, e_gr, e_ald, e_zld, e_zst, e_ir, e_cs1, e_cv2, e_hd, e_c10, e_c1i, e_c1r, e_sh0, e_sh1, e_sh2, e_sh3, e_sh4, e_tls, e_tln, e_tl0, e_tl1, cl_82, cl_108, ln_108, cl_110, ln_110, tg_82_28, tg_82_30, q_N_isSheet, q_N_meets, Nat.reduceAdd, true_and, and_true, true_implies, not_true_eq_false, false_implies, not_false_eq_true, imp_self, forall_const, List.append_nil, ra_I, ra_J, ra_pad, true_or, or_true, Nat.reduceEqDiff, ra_bz, eq_self, if_true, if_false, false_and, and_false, Nat.zero_le, List.cons_append, List.nil_append, Nat.reduceLT, Nat.reduceLeDiff, Nat.reduceMul, Nat.reduceSub, n_0, n_1, n_2, n_3, n_4, n_5, n_6, n_7, n_8, n_9, n_10, n_12, n_40, n_48, n_57, n_59, n_72, n_99, n_102, n_103, n_107, n_108, n_192, n_255, n_256, n_999, n_1000, n_104, nI_add, pk_mul, n_cl, n_inT, n_le, n_lt, n_eq, n_m1, n_m1', n_lem1, n_m1le, n_ltm1, n_m1lt, n_lepred, n_shl, fa_or, e1, e3, sw_at]
    refine ⟨fun _ => ⟨fun q => ?_, fun q => ?_⟩, fun q => absurd hy q⟩
    · rw [if_pos (show b 1 s = 0 from q)] at hZ
      exact hZ _ hA.met (ra_lo.rf.sw (by decide))
    · rw [if_neg (show ¬ b 1 s = 0 from q)] at hZ
      refine hZ _ ⟨hA.1.sw (by decide) (fun q => by omega), ?_, fun j hj => ?_, ?_⟩ (ra_lo.rf.sw (by decide))
      · simpa [sw_at, bb_u] using k1
      · by_cases e : j = s
        · subst e
          simpa [sw_at, bb_u] using ⟨rfl, e2, e3⟩
        · simpa [sw_at, bb_u, e] using k2 j hj
      · simpa [sw_at, bb_u] using ⟨k3, k4⟩
  · have e : bb_lose b s = (b, -2) := by
      unfold bb_lose
      exact if_neg hy
    rw [e] at hZ
    have h9 := hZ σ hA ra_lo.rf
    simp (disch := omega) only [b_N_lose_25, b_N_lose_19, b_N_lose_7, b_N_lose_0, e_al0, e_il1, e_c, e_b1, e_gr, e_ald, e_zld, e_zst, e_ir, e_cs1, e_cv2, e_hd, e_c10, e_c1i, e_c1r, e_sh0, e_sh1, e_sh2, e_sh3, e_sh4, e_tls, e_tln, e_tl0, e_tl1, cl_82, cl_108, ln_108, cl_110, ln_110, tg_82_28, tg_82_30, q_N_isSheet, q_N_meets, Nat.reduceAdd, true_and, and_true, true_implies, not_true_eq_false, false_implies, not_false_eq_true, imp_self, forall_const, List.append_nil, ra_I, ra_J, ra_pad, true_or, or_true, Nat.reduceEqDiff, ra_bz, eq_self, if_true, if_false, false_and, and_false, Nat.zero_le, List.cons_append, List.nil_append, Nat.reduceLT, Nat.reduceLeDiff, Nat.reduceMul, Nat.reduceSub, n_0, n_1, n_2, n_3, n_4, n_5, n_6, n_7, n_8, n_9, n_10, n_12, n_40, n_48, n_57, n_59, n_72, n_99, n_102, n_103, n_107, n_108, n_192, n_255, n_256, n_999, n_1000, n_104, nI_add, pk_mul, n_cl, n_inT, n_le, n_lt, n_eq, n_m1, n_m1', n_lem1, n_m1le, n_ltm1, n_m1lt, n_lepred, n_shl, fa_or]
    exact ⟨fun q => absurd q hy, fun _ => h9⟩
noncomputable def bb_put (b : Bb) (s f i v : Int32) : Bb × Int32 := by
  classical
  exact if an_in s 3 ∧ an_in f 2 then (if 0 < bb_lk b s.toNatClampNeg f i then (bb_u b 5 0 (bb_lk b s.toNatClampNeg f i), -10 - bb_lk b s.toNatClampNeg f i) else (bb_u b 4 (48 * s.toNatClampNeg + i.toNatClampNeg) (bb_cv (b 2 s.toNatClampNeg) v), 1)) else (b, -2)
theorem bb_lk_0 {b : Bb} (hB : bb_W b) {s : Nat} (hs : s < 4) {f i : Int32} (h : ¬ 0 < bb_lk b s f i) : bb_lk b s f i = 0 ∧ b 1 s = 1 ∧ b 2 s = f ∧ ∃ n : Nat, i = nI n ∧ n < 48 ∧ nI n ≤ b 3 s - 1 := by
  unfold bb_lk at *
  obtain ⟨h1, -, m, hm, h3⟩ := hB s hs
  by_cases q1 : b 1 s = 0
  · rw [if_pos q1] at h
    exact absurd (show (0 : Int32) < 1 by decide) h
  · rw [if_neg q1] at h ⊢
    by_cases q2 : b 2 s = f
    · rw [if_pos q2] at h ⊢
      by_cases q3 : 0 ≤ i ∧ i ≤ b 3 s - 1
      · rw [if_pos q3]
        refine ⟨rfl, h1.resolve_left q1, q2, ?_⟩
        obtain ⟨n, hn, rfl⟩ := nI_of (fun q => (fa_of_lt q).2.1 q3.1)
        refine ⟨n, rfl, ?_, q3.2⟩
        have h9 := q3.2
        rw [h3, show (1 : Int32) = nI 1 from rfl, fa_le, nI_toInt hn, pk_sub_toInt (by omega) (by omega)] at h9
        omega
      · rw [if_neg q3] at h
        exact absurd (show (0 : Int32) < 2 by decide) h
    · rw [if_neg q2] at h
      exact absurd (show (0 : Int32) < 3 by decide) h
theorem rn_A.item {a : Ab} {b : Bb} {σ : ra_St} {j : Nat} {v : Int32} (h : rn_A a b σ) : rn_A a (bb_u b 4 j v) (ra_sw σ 111 j v) := by
  refine ⟨h.1.sw (by decide) (fun q => by omega), ?_⟩
  obtain ⟨k1, k2, k3, k4⟩ := h.2
  refine ⟨by simpa [sw_at, bb_u] using k1, by simpa [sw_at, bb_u] using k2, fun i hi => ?_, by simpa [sw_at, bb_u] using k4⟩
  by_cases e : i = j
  · subst e; simp [sw_at, bb_u]
  · simpa [sw_at, bb_u, e] using k3 i hi
def sp_N_put (a : Ab) (b : Bb) : ra_Sp := ra_f4 82 (fun s f i v σ Z => rn_A a b σ ∧ ∀ σ', rn_A a (bb_put b s f i v).1 σ' → ra_lo σ σ' → Z (some (.int (bb_put b s f i v).2)) σ')
theorem q_N_put {a : Ab} {b : Bb} {oo : Nat} {s f i v : Int32} {σ : ra_St} {Z : ra_R} : sp_N_put a b [.ref oo, .int s, .int f, .int i, .int v] σ Z = (oo = 82 ∧ (rn_A a b σ ∧ ∀ σ', rn_A a (bb_put b s f i v).1 σ' → ra_lo σ σ' → Z (some (.int (bb_put b s f i v).2)) σ')) := rfl
theorem k_N_put {l : Launch} {X : ra_X} {a : Ab} {b : Bb} (hB : bb_W b) : ra_MOK l X mi_N_put (sp_N_put a b) := by
  refine g_N_put k_N_isSheet k_N_in (k_N_lacks (b := b)) k_N_meets k_N_keep (sp_N_put a b) ?_
  intro as σ Z _ _ h
  obtain ⟨s, f, i, v, rfl, hA, hZ⟩ := x_f4 h
  by_cases hy : an_in s 3 ∧ an_in f 2
  · obtain ⟨s, hs, rfl⟩ := an_in_of hy.1 (by decide)
    have e : bb_put b (nI s) f i v = if 0 < bb_lk b s f i then (bb_u b 5 0 (bb_lk b s f i), -10 - bb_lk b s f i) else (bb_u b 4 (48 * s + i.toNatClampNeg) (bb_cv (b 2 s) v), 1) := by
      unfold bb_put
      rw [if_pos hy, n_cl (by omega)]
    rw [e] at hZ
    simp (disch := omega) only [b_N_put_40, b_N_put_33, b_N_put_19, b_N_put_16, b_N_put_7, b_N_put_0, e_al0, e_il1, e_il3, e_il4, e_il5, e_il2, e_is5i, e_is5r, e_is5n, e_c, e_b1, e_ir, e_cs3, e_cs1, e_cv4, e_hd, e_cv2, e_c10, e_c1i, e_c1r, e_sh0, e_sh1, e_sh2, e_sh3, e_sh4, e_tls, e_tln, e_tl0, e_tl1, cl_82, q_N_isSheet, q_N_in, q_N_lacks, q_N_meets, q_N_keep, Nat.reduceAdd, true_and, and_true, true_implies, not_true_eq_false, false_implies, not_false_eq_true, imp_self, forall_const, List.append_nil, ra_I, ra_J, ra_pad, true_or, or_true, Nat.reduceEqDiff, ra_bz, eq_self, if_true, if_false, false_and, and_false, Nat.zero_le, List.cons_append, List.nil_append, Nat.reduceLT, Nat.reduceLeDiff, Nat.reduceMul, Nat.reduceSub, n_0, n_1, n_2, n_3, n_4, n_5, n_6, n_7, n_8, n_9, n_10, n_12, n_40, n_48, n_57, n_59, n_72, n_99, n_102, n_103, n_107, n_108, n_192, n_255, n_256, n_999, n_1000, n_104, nI_add, pk_mul, n_cl, n_inT, n_le, n_lt, n_eq, n_m1, n_m1', n_lem1, n_m1le, n_ltm1, n_m1lt, n_lepred, n_shl, fa_or]
    refine ⟨fun _ => ⟨fun _ => ⟨hA.2, fun q => ?_, fun q => ?_⟩, fun q => absurd hy.2 q⟩, fun q => absurd hy.1 q⟩
    · have q2 : ¬ 0 < bb_lk b s f i := fun z => (fa_of_lt z).2.1 q
      rw [if_neg q2] at hZ
      obtain ⟨-, -, -, n, rfl, hn, -⟩ := bb_lk_0 hB (by omega) q2
      rw [n_cl (by omega)] at hZ
      rw [n_cl (by omega)]
      rw [(hA.2.2.1 s (by omega)).2.1]
      exact ⟨vi hn (by decide), hZ _ hA.item (ra_lo.rf.sw (by decide))⟩
    · have q2 : 0 < bb_lk b s f i := fa_of_nle q
      rw [if_pos q2] at hZ
      exact hZ _ hA.met (ra_lo.rf.sw (by decide))
  · have e : bb_put b s f i v = (b, -2) := by
      unfold bb_put
      exact if_neg hy
    rw [e] at hZ
    have h9 := hZ σ hA ra_lo.rf
    simp (disch := omega) only [b_N_put_40, b_N_put_33, b_N_put_16, b_N_put_7, b_N_put_0, e_al0, e_il1, e_il3, e_il4, e_il5, e_il2, e_is5i, e_is5r, e_is5n, e_c, e_b1, e_ir, e_cs3, e_cs1, e_cv4, e_hd, e_cv2, e_c10, e_c1i, e_c1r, e_sh0, e_sh1, e_sh2, e_sh3, e_sh4, e_tls, e_tln, e_tl0, e_tl1, cl_82, q_N_isSheet, q_N_in, q_N_lacks, q_N_meets, q_N_keep, Nat.reduceAdd, true_and, and_true, true_implies, not_true_eq_false, false_implies, not_false_eq_true, imp_self, forall_const, List.append_nil, ra_I, ra_J, ra_pad, true_or, or_true, Nat.reduceEqDiff, ra_bz, eq_self, if_true, if_false, false_and, and_false, Nat.zero_le, List.cons_append, List.nil_append, Nat.reduceLT, Nat.reduceLeDiff, Nat.reduceMul, Nat.reduceSub, n_0, n_1, n_2, n_3, n_4, n_5, n_6, n_7, n_8, n_9, n_10, n_12, n_40, n_48, n_57, n_59, n_72, n_99, n_102, n_103, n_107, n_108, n_192, n_255, n_256, n_999, n_1000, n_104, nI_add, pk_mul, n_cl, n_inT, n_le, n_lt, n_eq, n_m1, n_m1', n_lem1, n_m1le, n_ltm1, n_m1lt, n_lepred, n_shl, fa_or]
    exact ⟨fun q => ⟨fun q2 => absurd ⟨q, q2⟩ hy, fun _ => h9⟩, fun _ => h9⟩
noncomputable def bb_get (b : Bb) (s f i : Int32) : Bb × Int32 := by
  classical
  exact if an_in s 3 ∧ an_in f 2 then (if 0 < bb_lk b s.toNatClampNeg f i then (bb_u b 5 0 (bb_lk b s.toNatClampNeg f i), -2147483648) else (b, b 4 (48 * s.toNatClampNeg + i.toNatClampNeg))) else (b, -2147483648)
def sp_N_get (a : Ab) (b : Bb) : ra_Sp := ra_f3 82 (fun s f i σ Z => rn_A a b σ ∧ ∀ σ', rn_A a (bb_get b s f i).1 σ' → ra_lo σ σ' → Z (some (.int (bb_get b s f i).2)) σ')
theorem q_N_get {a : Ab} {b : Bb} {oo : Nat} {s f i : Int32} {σ : ra_St} {Z : ra_R} : sp_N_get a b [.ref oo, .int s, .int f, .int i] σ Z = (oo = 82 ∧ (rn_A a b σ ∧ ∀ σ', rn_A a (bb_get b s f i).1 σ' → ra_lo σ σ' → Z (some (.int (bb_get b s f i).2)) σ')) := rfl
theorem k_N_get {l : Launch} {X : ra_X} {a : Ab} {b : Bb} (hB : bb_W b) : ra_MOK l X mi_N_get (sp_N_get a b) := by
  refine g_N_get k_N_isSheet k_N_in (k_N_lacks (b := b)) (sp_N_get a b) ?_
  intro as σ Z _ _ h
  obtain ⟨s, f, i, rfl, hA, hZ⟩ := x_f3 h
  by_cases hy : an_in s 3 ∧ an_in f 2
  · obtain ⟨s, hs, rfl⟩ := an_in_of hy.1 (by decide)
    have e : bb_get b (nI s) f i = if 0 < bb_lk b s f i then (bb_u b 5 0 (bb_lk b s f i), -2147483648) else (b, b 4 (48 * s + i.toNatClampNeg)) := by
      unfold bb_get
      rw [if_pos hy, n_cl (by omega)]
    rw [e] at hZ
    simp (disch := omega) only [b_N_get_42, b_N_get_33, b_N_get_19, b_N_get_16, b_N_get_7, b_N_get_0, e_al0, e_il1, e_il3, e_il4, e_il2, e_is4i, e_is4r, e_is4n, e_c, e_i2, e_b1, e_gr, e_pi, e_ald, e_ir, e_cs3, e_cs1, e_cv4, e_hd, e_c10, e_c1i, e_c1r, e_sh0, e_sh1, e_sh2, e_sh3, e_sh4, e_tls, e_tln, e_tl0, e_tl1, cl_82, cl_111, ln_111, tg_82_31, q_N_isSheet, q_N_in, q_N_lacks, Nat.reduceAdd, true_and, and_true, true_implies, not_true_eq_false, false_implies, not_false_eq_true, imp_self, forall_const, List.append_nil, ra_I, ra_J, ra_pad, true_or, or_true, Nat.reduceEqDiff, ra_bz, eq_self, if_true, if_false, false_and, and_false, Nat.zero_le, List.cons_append, List.nil_append, Nat.reduceLT, Nat.reduceLeDiff, Nat.reduceMul, Nat.reduceSub, n_0, n_1, n_2, n_3, n_4, n_5, n_6, n_7, n_8, n_9, n_10, n_12, n_40, n_48, n_57, n_59, n_72, n_99, n_102, n_103, n_107, n_108, n_192, n_255, n_256, n_999, n_1000, n_104, nI_add, pk_mul, n_cl, n_inT, n_le, n_lt, n_eq, n_m1, n_m1', n_lem1, n_m1le, n_ltm1, n_m1lt, n_lepred, n_shl, fa_or]
    refine ⟨fun _ => ⟨fun _ => ⟨hA.2, fun q => ?_, fun q => ?_⟩, fun q => absurd hy.2 q⟩, fun q => absurd hy.1 q⟩
    · have q2 : ¬ 0 < bb_lk b s f i := fun z => (fa_of_lt z).2.1 q
      rw [if_neg q2] at hZ
      obtain ⟨-, -, -, n, rfl, hn, -⟩ := bb_lk_0 hB (by omega) q2
      rw [n_cl (by omega)] at hZ
      rw [nI_add, n_cl (by omega), hA.2.2.2.1 _ (by omega)]
      exact ⟨vi (by omega) (by decide), hZ _ hA ra_lo.rf⟩
    · have q2 : 0 < bb_lk b s f i := fa_of_nle q
      rw [if_pos q2] at hZ
      exact hZ _ hA.met (ra_lo.rf.sw (by decide))
  · have e : bb_get b s f i = (b, -2147483648) := by
      unfold bb_get
      exact if_neg hy
    rw [e] at hZ
    have h9 := hZ σ hA ra_lo.rf
    simp (disch := omega) only [b_N_get_42, b_N_get_33, b_N_get_16, b_N_get_7, b_N_get_0, e_al0, e_il1, e_il3, e_il4, e_il2, e_is4i, e_is4r, e_is4n, e_c, e_i2, e_b1, e_gr, e_pi, e_ald, e_ir, e_cs3, e_cs1, e_cv4, e_hd, e_c10, e_c1i, e_c1r, e_sh0, e_sh1, e_sh2, e_sh3, e_sh4, e_tls, e_tln, e_tl0, e_tl1, cl_82, cl_111, ln_111, tg_82_31, q_N_isSheet, q_N_in, q_N_lacks, Nat.reduceAdd, true_and, and_true, true_implies, not_true_eq_false, false_implies, not_false_eq_true, imp_self, forall_const, List.append_nil, ra_I, ra_J, ra_pad, true_or, or_true, Nat.reduceEqDiff, ra_bz, eq_self, if_true, if_false, false_and, and_false, Nat.zero_le, List.cons_append, List.nil_append, Nat.reduceLT, Nat.reduceLeDiff, Nat.reduceMul, Nat.reduceSub, n_0, n_1, n_2, n_3, n_4, n_5, n_6, n_7, n_8, n_9, n_10, n_12, n_40, n_48, n_57, n_59, n_72, n_99, n_102, n_103, n_107, n_108, n_192, n_255, n_256, n_999, n_1000, n_104, nI_add, pk_mul, n_cl, n_inT, n_le, n_lt, n_eq, n_m1, n_m1', n_lem1, n_m1le, n_ltm1, n_m1lt, n_lepred, n_shl, fa_or]
    exact ⟨fun q => ⟨fun q2 => absurd ⟨q, q2⟩ hy, fun _ => h9⟩, fun _ => h9⟩
def bb_cp (b : Bb) (s i t j n : Nat) : Bb := fun p q => if p = 4 ∧ 48 * t + j ≤ q ∧ q < 48 * t + j + n then b 4 (48 * s + i + (q - (48 * t + j))) else b p q
abbrev bb_far (b : Bb) (s : Nat) (i n : Int32) : Prop := (b 3 s).toInt < i.toInt + n.toInt
theorem n_far {i n m : Int32} : (m.toInt64 < i.toInt64 + n.toInt64) ↔ m.toInt < i.toInt + n.toInt := by
  have h1 := Int32.toInt_lt i
  have h2 := Int32.le_toInt i
  have h3 := Int32.toInt_lt n
  have h4 := Int32.le_toInt n
  rw [fa_lt64, Int64.toInt_add, Int32.toInt_toInt64, Int32.toInt_toInt64, Int32.toInt_toInt64, Int.bmod_eq_of_le (by omega) (by omega)]
theorem bb_far_iff {b : Bb} {s : Nat} {i n : Int32} : (nI 0 < lg_cmp (i.toInt64 + n.toInt64) (b 3 s).toInt64) ↔ bb_far b s i n := by
  show (0 < lg_cmp (i.toInt64 + n.toInt64) (b 3 s).toInt64) ↔ _
  rw [lg_cmp_gt, n_far]
theorem bb_far_niff {b : Bb} {s : Nat} {i n : Int32} : (lg_cmp (i.toInt64 + n.toInt64) (b 3 s).toInt64 ≤ nI 0) ↔ ¬ bb_far b s i n := by
  rw [← bb_far_iff]
  constructor
  · exact fun h q => (fa_of_lt q).2.1 h
  · exact fa_of_nlt
theorem bb_far_no {b : Bb} (hB : bb_W b) {s i n : Nat} (hs : s < 4) (hi : i < 2147483648) (hn : n < 2147483648) (h : ¬ bb_far b s (nI i) (nI n)) : i + n ≤ 48 := by
  unfold bb_far at h
  obtain ⟨-, -, m, hm, e⟩ := hB s hs
  rw [e, nI_toInt hi, nI_toInt hn, nI_toInt (by omega)] at h
  omega
noncomputable def bb_copy (b : Bb) (s i t j n : Int32) : Bb × Int32 := by
  classical
  exact if an_in s 3 ∧ an_in t 3 then (if b 1 s.toNatClampNeg = 0 ∨ b 1 t.toNatClampNeg = 0 then (bb_u b 5 0 1, -11) else if b 2 s.toNatClampNeg = b 2 t.toNatClampNeg then (if i < 0 ∨ j < 0 ∨ n < 0 ∨ bb_far b s.toNatClampNeg i n ∨ bb_far b t.toNatClampNeg j n then (bb_u b 5 0 2, -12) else (bb_cp b s.toNatClampNeg i.toNatClampNeg t.toNatClampNeg j.toNatClampNeg n.toNatClampNeg, 1)) else (bb_u b 5 0 4, -14)) else (b, -2)
def sp_N_copy (a : Ab) (b : Bb) : ra_Sp := ra_f5 82 (fun s i t j n σ Z => rn_A a b σ ∧ ∀ σ', rn_A a (bb_copy b s i t j n).1 σ' → ra_lo σ σ' → Z (some (.int (bb_copy b s i t j n).2)) σ')
theorem q_N_copy {a : Ab} {b : Bb} {oo : Nat} {s i t j n : Int32} {σ : ra_St} {Z : ra_R} : sp_N_copy a b [.ref oo, .int s, .int i, .int t, .int j, .int n] σ Z = (oo = 82 ∧ (rn_A a b σ ∧ ∀ σ', rn_A a (bb_copy b s i t j n).1 σ' → ra_lo σ σ' → Z (some (.int (bb_copy b s i t j n).2)) σ')) := rfl
def I_N_copy (a : Ab) (b : Bb) (Z : ra_R) (as : List Value) (σ0 : ra_St) (c : Nat) (μ : ra_M) : ra_K := fun L S σ => S = [] ∧ ∃ s i t j n k : Nat, as = [.ref 82, .int (nI s), .int (nI i), .int (nI t), .int (nI j), .int (nI n)] ∧ s ≤ 3 ∧ t ≤ 3 ∧ i + n ≤ 48 ∧ j + n ≤ 48 ∧ bb_copy b (nI s) (nI i) (nI t) (nI j) (nI n) = (bb_cp b s i t j n, 1) ∧ k ≤ n ∧ ra_lo σ0 σ ∧
  match c with
  | 120 => rn_A a b σ ∧ (∀ q, q < k → σ 112 q = b 4 (48 * s + i + q)) ∧ μ = (100 - k, 0, 0) ∧ L = [.ref 82, .int (nI s), .int (nI i), .int (nI t), .int (nI j), .int (nI n), .int (nI k)]
  | _ => rn_A a (bb_cp b s i t j k) σ ∧ (∀ q, q < n → σ 112 q = b 4 (48 * s + i + q)) ∧ μ = (50 - k, 0, 0) ∧ L = [.ref 82, .int (nI s), .int (nI i), .int (nI t), .int (nI j), .int (nI n), .int (nI k)]
theorem k_N_copy {l : Launch} {X : ra_X} {a : Ab} {b : Bb} (hB : bb_W b) : ra_MOK l X mi_N_copy (sp_N_copy a b) := by
  refine g_N_copy k_N_isSheet k_N_meets (sp_N_copy a b) (I_N_copy a b) ?_ ?_ ?_
  · intro as σ Z _ _ h
    obtain ⟨s, i, t, j, n, rfl, hA, hZ⟩ := x_f5 h
    by_cases hy : an_in s 3 ∧ an_in t 3
    · obtain ⟨s, hs, rfl⟩ := an_in_of hy.1 (by decide)
      obtain ⟨t, ht, rfl⟩ := an_in_of hy.2 (by decide)
      have e : bb_copy b (nI s) i (nI t) j n = if b 1 s = 0 ∨ b 1 t = 0 then (bb_u b 5 0 1, -11) else if b 2 s = b 2 t then (if i < 0 ∨ j < 0 ∨ n < 0 ∨ bb_far b s i n ∨ bb_far b t j n then (bb_u b 5 0 2, -12) else (bb_cp b s i.toNatClampNeg t j.toNatClampNeg n.toNatClampNeg, 1)) else (bb_u b 5 0 4, -14) := by
        unfold bb_copy
        rw [if_pos hy, n_cl (by omega), n_cl (by omega)]
      obtain ⟨e1, e2, e3⟩ := hA.2.2.1 s (by omega)
      obtain ⟨f1, f2, f3⟩ := hA.2.2.1 t (by omega)
      simp (disch := omega) only [b_N_copy_192, b_N_copy_164, b_N_copy_157, b_N_copy_154, b_N_copy_127, b_N_copy_120, b_N_copy_117, b_N_copy_111, b_N_copy_93, b_N_copy_76, b_N_copy_71, b_N_copy_66, b_N_copy_62, b_N_copy_56, b_N_copy_41, b_N_copy_35, b_N_copy_26, b_N_copy_17, b_N_copy_14, b_N_copy_7, b_N_copy_0, e_al0, e_il3, e_il4, e_il6, e_il5, e_il1, e_il2, e_is6i, e_is6r, e_is6n, e_inc6i, e_inc6r, e_inc6n, e_c, e_i2, e_i2l, e_l2, e_lcmp, e_b1, e_b2, e_gr, e_ald, e_ast, e_zld, e_ir, e_cs1, e_cv2, e_hd, e_c10, e_c1i, e_c1r, e_sh0, e_sh1, e_sh2, e_sh3, e_sh4, e_tls, e_tln, e_tl0, e_tl1, cl_82, cl_108, ln_108, cl_109, ln_109, cl_110, ln_110, cl_111, ln_111, cl_112, ln_112, tg_82_28, tg_82_29, tg_82_30, tg_82_31, tg_82_32, q_N_isSheet, q_N_meets, Nat.reduceAdd, true_and, and_true, true_implies, not_true_eq_false, false_implies, not_false_eq_true, imp_self, forall_const, List.append_nil, ra_I, ra_J, ra_pad, true_or, or_true, Nat.reduceEqDiff, ra_bz, eq_self, if_true, if_false, false_and, and_false, Nat.zero_le, List.cons_append, List.nil_append, Nat.reduceLT, Nat.reduceLeDiff, Nat.reduceMul, Nat.reduceSub, n_0, n_1, n_2, n_3, n_4, n_5, n_6, n_7, n_8, n_9, n_10, n_12, n_40, n_48, n_57, n_59, n_72, n_99, n_102, n_103, n_107, n_108, n_192, n_255, n_256, n_999, n_1000, n_104, nI_add, pk_mul, n_cl, n_inT, n_le, n_lt, n_eq, n_m1, n_m1', n_lem1, n_m1le, n_ltm1, n_m1lt, n_lepred, n_shl, fa_or, e1, e2, e3, f1, f2, f3, bb_far_iff, bb_far_niff]
      have far : b 1 s ≠ 0 → b 1 t ≠ 0 → b 2 s = b 2 t → (i < 0 ∨ j < 0 ∨ n < 0 ∨ bb_far b s i n ∨ bb_far b t j n) → Z (some (.int (-10 - 2))) (ra_sw σ 82 33 2) := by
        intro q3 q4 q2 q1
        rw [e, if_neg (fun z => z.elim q3 q4), if_pos q2, if_pos q1] at hZ
        exact hZ _ hA.met (ra_lo.rf.sw (by decide))
      have non : b 1 s = 0 ∨ b 1 t = 0 → Z (some (.int (-10 - 1))) (ra_sw σ 82 33 1) := by
        intro q3
        rw [e, if_pos q3] at hZ
        exact hZ _ hA.met (ra_lo.rf.sw (by decide))
      refine ⟨fun _ => ⟨fun _ => ⟨fun q1 => non (Or.inl q1), fun q1 => ⟨fun q2 => non (Or.inr q2), fun q2 => ⟨fun q3 => ⟨fun q4 => far q1 q2 q3 (Or.inl q4), fun q4 => ⟨fun q5 => far q1 q2 q3 (Or.inr (Or.inl q5)), fun q5 => ⟨fun q6 => far q1 q2 q3 (Or.inr (Or.inr (Or.inl q6))), fun q6 => ⟨fun q7 => far q1 q2 q3 (Or.inr (Or.inr (Or.inr (Or.inl q7)))), fun q7 => ⟨fun q8 => ?_, fun q8 => far q1 q2 q3 (Or.inr (Or.inr (Or.inr (Or.inr (Classical.not_not.mp q8)))))⟩⟩⟩⟩⟩, fun q3 => ?_⟩⟩⟩, fun q => absurd hy.2 q⟩, fun q => absurd hy.1 q⟩
      · have e9 : bb_copy b (nI s) i (nI t) j n = (bb_cp b s i.toNatClampNeg t j.toNatClampNeg n.toNatClampNeg, 1) := by
          rw [e, if_neg (fun z => z.elim q1 q2), if_pos q3, if_neg (fun z => z.elim q4 (fun z => z.elim q5 (fun z => z.elim q6 (fun z => z.elim q7 q8))))]
        obtain ⟨i, hi, rfl⟩ := nI_of q4
        obtain ⟨j, hj, rfl⟩ := nI_of q5
        obtain ⟨n, hn, rfl⟩ := nI_of q6
        rw [n_cl hi, n_cl hj, n_cl hn] at e9
        exact ⟨(100 - 0, 0, 0), rfl, s, i, t, j, n, 0, rfl, hs, ht, bb_far_no hB (by omega) hi hn q7, bb_far_no hB (by omega) hj hn q8, e9, by omega, ra_lo.rf, hA, fun y hy => by omega, rfl, rfl⟩
      · rw [e, if_neg (fun z => z.elim q1 q2), if_neg q3] at hZ
        exact hZ _ hA.met (ra_lo.rf.sw (by decide))
    · have e : bb_copy b s i t j n = (b, -2) := by
        unfold bb_copy
        exact if_neg hy
      rw [e] at hZ
      have h9 := hZ σ hA ra_lo.rf
      simp (disch := omega) only [b_N_copy_192, b_N_copy_164, b_N_copy_157, b_N_copy_154, b_N_copy_127, b_N_copy_120, b_N_copy_117, b_N_copy_111, b_N_copy_93, b_N_copy_76, b_N_copy_71, b_N_copy_66, b_N_copy_62, b_N_copy_56, b_N_copy_41, b_N_copy_35, b_N_copy_26, b_N_copy_14, b_N_copy_7, b_N_copy_0, e_al0, e_il3, e_il4, e_il6, e_il5, e_il1, e_il2, e_is6i, e_is6r, e_is6n, e_inc6i, e_inc6r, e_inc6n, e_c, e_i2, e_i2l, e_l2, e_lcmp, e_b1, e_b2, e_gr, e_ald, e_ast, e_zld, e_ir, e_cs1, e_cv2, e_hd, e_c10, e_c1i, e_c1r, e_sh0, e_sh1, e_sh2, e_sh3, e_sh4, e_tls, e_tln, e_tl0, e_tl1, cl_82, cl_108, ln_108, cl_109, ln_109, cl_110, ln_110, cl_111, ln_111, cl_112, ln_112, tg_82_28, tg_82_29, tg_82_30, tg_82_31, tg_82_32, q_N_isSheet, q_N_meets, Nat.reduceAdd, true_and, and_true, true_implies, not_true_eq_false, false_implies, not_false_eq_true, imp_self, forall_const, List.append_nil, ra_I, ra_J, ra_pad, true_or, or_true, Nat.reduceEqDiff, ra_bz, eq_self, if_true, if_false, false_and, and_false, Nat.zero_le, List.cons_append, List.nil_append, Nat.reduceLT, Nat.reduceLeDiff, Nat.reduceMul, Nat.reduceSub, n_0, n_1, n_2, n_3, n_4, n_5, n_6, n_7, n_8, n_9, n_10, n_12, n_40, n_48, n_57, n_59, n_72, n_99, n_102, n_103, n_107, n_108, n_192, n_255, n_256, n_999, n_1000, n_104, nI_add, pk_mul, n_cl, n_inT, n_le, n_lt, n_eq, n_m1, n_m1', n_lem1, n_m1le, n_ltm1, n_m1lt, n_lepred, n_shl, fa_or]
      exact ⟨fun q => ⟨fun q2 => absurd ⟨q, q2⟩ hy, fun _ => h9⟩, fun _ => h9⟩
  · intro as σ0 Z h0 μ L S σ hI
    obtain ⟨rfl, s, i, t, j, n, k, rfl, hs, ht, hin, hjn, hcp, hk, hlo, hA, hm, rfl, rfl⟩ := hI
    by_cases hlt : k < n
    · simp (disch := omega) only [b_N_copy_192, b_N_copy_164, b_N_copy_157, b_N_copy_127, b_N_copy_120, b_N_copy_117, b_N_copy_111, b_N_copy_93, b_N_copy_76, b_N_copy_71, b_N_copy_66, b_N_copy_62, b_N_copy_56, b_N_copy_41, b_N_copy_35, b_N_copy_26, b_N_copy_17, b_N_copy_14, b_N_copy_7, b_N_copy_0, e_al0, e_il3, e_il4, e_il6, e_il5, e_il1, e_il2, e_is6i, e_is6r, e_is6n, e_inc6i, e_inc6r, e_inc6n, e_c, e_i2, e_i2l, e_l2, e_lcmp, e_b1, e_b2, e_gr, e_ald, e_ast, e_zld, e_ir, e_cs1, e_cv2, e_hd, e_c10, e_c1i, e_c1r, e_sh0, e_sh1, e_sh2, e_sh3, e_sh4, e_tls, e_tln, e_tl0, e_tl1, cl_82, cl_108, ln_108, cl_109, ln_109, cl_110, ln_110, cl_111, ln_111, cl_112, ln_112, tg_82_28, tg_82_29, tg_82_30, tg_82_31, tg_82_32, q_N_isSheet, q_N_meets, Nat.reduceAdd, true_and, and_true, true_implies, not_true_eq_false, false_implies, not_false_eq_true, imp_self, forall_const, List.append_nil, ra_I, ra_J, ra_pad, true_or, or_true, Nat.reduceEqDiff, ra_bz, eq_self, if_true, if_false, false_and, and_false, Nat.zero_le, List.cons_append, List.nil_append, Nat.reduceLT, Nat.reduceLeDiff, Nat.reduceMul, Nat.reduceSub, n_0, n_1, n_2, n_3, n_4, n_5, n_6, n_7, n_8, n_9, n_10, n_12, n_40, n_48, n_57, n_59, n_72, n_99, n_102, n_103, n_107, n_108, n_192, n_255, n_256, n_999, n_1000, n_104, nI_add, pk_mul, n_cl, n_inT, n_le, n_lt, n_eq, n_m1, n_m1', n_lem1, n_m1le, n_ltm1, n_m1lt, n_lepred, n_shl, fa_or, hA.2.2.2.1 (48 * s + i + k) (by omega)]
      refine ⟨fun q => by omega, fun q => ⟨(100 - (k + 1), 0, 0), lx1 (by omega), rfl, s, i, t, j, n, k + 1, rfl, hs, ht, hin, hjn, hcp, by omega, hlo.sw (by decide), hA.fr ((ra_fr.rf (cs := [112])).sw (by decide) (by decide)) (by decide), fun y hy => ?_, rfl, rfl⟩⟩
      rw [sw_at, if_pos rfl]
      split
      · next e => rw [e]
      · exact hm y (by omega)
    · simp (disch := omega) only [b_N_copy_192, b_N_copy_164, b_N_copy_157, b_N_copy_154, b_N_copy_120, b_N_copy_117, b_N_copy_111, b_N_copy_93, b_N_copy_76, b_N_copy_71, b_N_copy_66, b_N_copy_62, b_N_copy_56, b_N_copy_41, b_N_copy_35, b_N_copy_26, b_N_copy_17, b_N_copy_14, b_N_copy_7, b_N_copy_0, e_al0, e_il3, e_il4, e_il6, e_il5, e_il1, e_il2, e_is6i, e_is6r, e_is6n, e_inc6i, e_inc6r, e_inc6n, e_c, e_i2, e_i2l, e_l2, e_lcmp, e_b1, e_b2, e_gr, e_ald, e_ast, e_zld, e_ir, e_cs1, e_cv2, e_hd, e_c10, e_c1i, e_c1r, e_sh0, e_sh1, e_sh2, e_sh3, e_sh4, e_tls, e_tln, e_tl0, e_tl1, cl_82, cl_108, ln_108, cl_109, ln_109, cl_110, ln_110, cl_111, ln_111, cl_112, ln_112, tg_82_28, tg_82_29, tg_82_30, tg_82_31, tg_82_32, q_N_isSheet, q_N_meets, Nat.reduceAdd, true_and, and_true, true_implies, not_true_eq_false, false_implies, not_false_eq_true, imp_self, forall_const, List.append_nil, ra_I, ra_J, ra_pad, true_or, or_true, Nat.reduceEqDiff, ra_bz, eq_self, if_true, if_false, false_and, and_false, Nat.zero_le, List.cons_append, List.nil_append, Nat.reduceLT, Nat.reduceLeDiff, Nat.reduceMul, Nat.reduceSub, n_0, n_1, n_2, n_3, n_4, n_5, n_6, n_7, n_8, n_9, n_10, n_12, n_40, n_48, n_57, n_59, n_72, n_99, n_102, n_103, n_107, n_108, n_192, n_255, n_256, n_999, n_1000, n_104, nI_add, pk_mul, n_cl, n_inT, n_le, n_lt, n_eq, n_m1, n_m1', n_lem1, n_m1le, n_ltm1, n_m1lt, n_lepred, n_shl, fa_or]
      refine ⟨fun q => ⟨(50 - 0, 0, 0), lx1 (by omega), rfl, s, i, t, j, n, 0, rfl, hs, ht, hin, hjn, hcp, by omega, hlo, ?_, fun y hy => hm y (by omega), rfl, rfl⟩, fun q => by omega⟩
      have e : bb_cp b s i t j 0 = b := by
        funext p q
        unfold bb_cp
        rw [if_neg (by omega)]
      rw [e]
      exact hA
  · intro as σ0 Z h0 μ L S σ hI
    obtain ⟨rfl, s, i, t, j, n, k, rfl, hs, ht, hin, hjn, hcp, hk, hlo, hA, hm, rfl, rfl⟩ := hI
    by_cases hlt : k < n
    · simp (disch := omega) only [b_N_copy_164, b_N_copy_157, b_N_copy_154, b_N_copy_127, b_N_copy_120, b_N_copy_117, b_N_copy_111, b_N_copy_93, b_N_copy_76, b_N_copy_71, b_N_copy_66, b_N_copy_62, b_N_copy_56, b_N_copy_41, b_N_copy_35, b_N_copy_26, b_N_copy_17, b_N_copy_14, b_N_copy_7, b_N_copy_0, e_al0, e_il3, e_il4, e_il6, e_il5, e_il1, e_il2, e_is6i, e_is6r, e_is6n, e_inc6i, e_inc6r, e_inc6n, e_c, e_i2, e_i2l, e_l2, e_lcmp, e_b1, e_b2, e_gr, e_ald, e_ast, e_zld, e_ir, e_cs1, e_cv2, e_hd, e_c10, e_c1i, e_c1r, e_sh0, e_sh1, e_sh2, e_sh3, e_sh4, e_tls, e_tln, e_tl0, e_tl1, cl_82, cl_108, ln_108, cl_109, ln_109, cl_110, ln_110, cl_111, ln_111, cl_112, ln_112, tg_82_28, tg_82_29, tg_82_30, tg_82_31, tg_82_32, q_N_isSheet, q_N_meets, Nat.reduceAdd, true_and, and_true, true_implies, not_true_eq_false, false_implies, not_false_eq_true, imp_self, forall_const, List.append_nil, ra_I, ra_J, ra_pad, true_or, or_true, Nat.reduceEqDiff, ra_bz, eq_self, if_true, if_false, false_and, and_false, Nat.zero_le, List.cons_append, List.nil_append, Nat.reduceLT, Nat.reduceLeDiff, Nat.reduceMul, Nat.reduceSub, n_0, n_1, n_2, n_3, n_4, n_5, n_6, n_7, n_8, n_9, n_10, n_12, n_40, n_48, n_57, n_59, n_72, n_99, n_102, n_103, n_107, n_108, n_192, n_255, n_256, n_999, n_1000, n_104, nI_add, pk_mul, n_cl, n_inT, n_le, n_lt, n_eq, n_m1, n_m1', n_lem1, n_m1le, n_ltm1, n_m1lt, n_lepred, n_shl, fa_or, hm k hlt]
      refine ⟨fun q => by omega, fun q => ⟨(50 - (k + 1), 0, 0), lx1 (by omega), rfl, s, i, t, j, n, k + 1, rfl, hs, ht, hin, hjn, hcp, by omega, hlo.sw (by decide), ?_, ?_, rfl, rfl⟩⟩
      · have e : bb_cp b s i t j (k + 1) = bb_u (bb_cp b s i t j k) 4 (48 * t + j + k) (b 4 (48 * s + i + k)) := by
          funext p q
          unfold bb_u bb_cp
          by_cases z : p = 4 ∧ q = 48 * t + j + k
          · rw [if_pos z, if_pos (by omega), show q - (48 * t + j) = k by omega]
          · rw [if_neg z]
            by_cases z2 : p = 4 ∧ 48 * t + j ≤ q ∧ q < 48 * t + j + k
            · rw [if_pos z2, if_pos (by omega)]
            · rw [if_neg z2, if_neg (by omega)]
        rw [e]
        exact hA.item
      · simpa [sw_at] using hm
    · simp (disch := omega) only [b_N_copy_192, b_N_copy_157, b_N_copy_154, b_N_copy_127, b_N_copy_120, b_N_copy_117, b_N_copy_111, b_N_copy_93, b_N_copy_76, b_N_copy_71, b_N_copy_66, b_N_copy_62, b_N_copy_56, b_N_copy_41, b_N_copy_35, b_N_copy_26, b_N_copy_17, b_N_copy_14, b_N_copy_7, b_N_copy_0, e_al0, e_il3, e_il4, e_il6, e_il5, e_il1, e_il2, e_is6i, e_is6r, e_is6n, e_inc6i, e_inc6r, e_inc6n, e_c, e_i2, e_i2l, e_l2, e_lcmp, e_b1, e_b2, e_gr, e_ald, e_ast, e_zld, e_ir, e_cs1, e_cv2, e_hd, e_c10, e_c1i, e_c1r, e_sh0, e_sh1, e_sh2, e_sh3, e_sh4, e_tls, e_tln, e_tl0, e_tl1, cl_82, cl_108, ln_108, cl_109, ln_109, cl_110, ln_110, cl_111, ln_111, cl_112, ln_112, tg_82_28, tg_82_29, tg_82_30, tg_82_31, tg_82_32, q_N_isSheet, q_N_meets, Nat.reduceAdd, true_and, and_true, true_implies, not_true_eq_false, false_implies, not_false_eq_true, imp_self, forall_const, List.append_nil, ra_I, ra_J, ra_pad, true_or, or_true, Nat.reduceEqDiff, ra_bz, eq_self, if_true, if_false, false_and, and_false, Nat.zero_le, List.cons_append, List.nil_append, Nat.reduceLT, Nat.reduceLeDiff, Nat.reduceMul, Nat.reduceSub, n_0, n_1, n_2, n_3, n_4, n_5, n_6, n_7, n_8, n_9, n_10, n_12, n_40, n_48, n_57, n_59, n_72, n_99, n_102, n_103, n_107, n_108, n_192, n_255, n_256, n_999, n_1000, n_104, nI_add, pk_mul, n_cl, n_inT, n_le, n_lt, n_eq, n_m1, n_m1', n_lem1, n_m1le, n_ltm1, n_m1lt, n_lepred, n_shl, fa_or]
      refine ⟨fun q => ?_, fun q => by omega⟩
      obtain ⟨_, _, _, _, _, e, hA0, hZ⟩ := x_f5 h0
      cases e
      rw [hcp] at hZ
      rw [show k = n by omega] at hA
      exact hZ σ hA hlo
noncomputable def bb_wr (a : Ab) (b : Bb) (s : Nat) : Nat → Bb
  | 0 => b
  | n + 1 => bb_u (bb_wr a b s n) 4 (48 * s + n) (bb_cv (b 2 s) (nI ((sm a (ab_te a) (a 3 0)).2.2.1 n)))
theorem bb_wr_o {a : Ab} {b : Bb} {s : Nat} : ∀ n p q, p ≠ 4 → bb_wr a b s n p q = b p q
  | 0, _, _, _ => rfl
  | n + 1, p, q, h => by
    rw [bb_wr, bb_u, if_neg (fun z => h z.1)]
    exact bb_wr_o n p q h
noncomputable def bb_write (a : Ab) (b : Bb) (s : Int32) : Bb × Int32 := by
  classical
  exact if an_in s 3 then (if b 1 s.toNatClampNeg = 0 then (bb_u b 5 0 1, -11) else (bb_wr a b s.toNatClampNeg (min (b 3 s.toNatClampNeg).toNatClampNeg (ab_hc a)), nI (min (b 3 s.toNatClampNeg).toNatClampNeg (ab_hc a)))) else (b, -2)
def sp_N_write (a : Ab) (b : Bb) : ra_Sp := ra_f1 82 (fun s σ Z => rn_A a b σ ∧ ∀ σ', rn_A a (bb_write a b s).1 σ' → ra_lo σ σ' → Z (some (.int (bb_write a b s).2)) σ')
theorem q_N_write {a : Ab} {b : Bb} {oo : Nat} {s : Int32} {σ : ra_St} {Z : ra_R} : sp_N_write a b [.ref oo, .int s] σ Z = (oo = 82 ∧ (rn_A a b σ ∧ ∀ σ', rn_A a (bb_write a b s).1 σ' → ra_lo σ σ' → Z (some (.int (bb_write a b s).2)) σ')) := rfl
def I_N_write (a : Ab) (b : Bb) (Z : ra_R) (as : List Value) (σ0 : ra_St) (c : Nat) (μ : ra_M) : ra_K := fun L S σ => S = [] ∧ ∃ s m n : Nat, as = [.ref 82, .int (nI s)] ∧ s ≤ 3 ∧ m ≤ 48 ∧ b 3 s = nI m ∧ n ≤ m ∧ n ≤ ab_hc a ∧ b 1 s ≠ 0 ∧ rn_A a (bb_wr a b s n) σ ∧ rn_P a σ ∧ rn_M a (sm a (ab_te a) (a 3 0)) σ ∧ ra_lo σ0 σ ∧ μ = (48 - n, 0, 0) ∧ L = [.ref 82, .int (nI s), .int (nI n)]
theorem k_N_write {l : Launch} {X : ra_X} {a : Ab} {b : Bb} (hW : ab_W a) (hB : bb_W b) : ra_MOK l X mi_N_write (sp_N_write a b) := by
  have h8 := ab_hc_8 a
  have hr12 := hW.2.2.2.2.1
  refine g_N_write k_N_isSheet k_N_meets (k_N_lays hW) k_N_keep (sp_N_write a b) (I_N_write a b) ?_ ?_
  · intro as σ Z _ _ h
    obtain ⟨s, rfl, hA, hZ⟩ := x_f1 h
    by_cases hy : an_in s 3
    · obtain ⟨s, hs, rfl⟩ := an_in_of hy (by decide)
      have e : bb_write a b (nI s) = if b 1 s = 0 then (bb_u b 5 0 1, -11) else (bb_wr a b s (min (b 3 s).toNatClampNeg (ab_hc a)), nI (min (b 3 s).toNatClampNeg (ab_hc a))) := by
        unfold bb_write
        rw [if_pos hy, n_cl (by omega)]
      rw [e] at hZ
      obtain ⟨e1, e2, e3⟩ := hA.2.2.1 s (by omega)
      obtain ⟨-, -, m, hm, em⟩ := hB s (by omega)
      simp (disch := omega) only [b_N_write_71, b_N_write_53, b_N_write_45, b_N_write_35, b_N_write_25, b_N_write_19, b_N_write_10, b_N_write_7, b_N_write_0, e_il2, e_al0, e_il1, e_is2i, e_is2r, e_is2n, e_inc2i, e_inc2r, e_inc2n, e_c, e_b1, e_b2, e_gi, e_gr, e_ald, e_zld, e_ir, e_cs1, e_cv4, e_hd, e_cv2, e_c10, e_c1i, e_c1r, e_sh0, e_sh1, e_sh2, e_sh3, e_sh4, e_tls, e_tln, e_tl0, e_tl1, cl_82, cl_95, ln_95, cl_108, ln_108, cl_110, ln_110, tg_82_14, tg_82_28, tg_82_30, q_N_isSheet, q_N_meets, q_N_lays, q_N_keep, Nat.reduceAdd, true_and, and_true, true_implies, not_true_eq_false, false_implies, not_false_eq_true, imp_self, forall_const, List.append_nil, ra_I, ra_J, ra_pad, true_or, or_true, Nat.reduceEqDiff, ra_bz, eq_self, if_true, if_false, false_and, and_false, Nat.zero_le, List.cons_append, List.nil_append, Nat.reduceLT, Nat.reduceLeDiff, Nat.reduceMul, Nat.reduceSub, n_0, n_1, n_2, n_3, n_4, n_5, n_6, n_7, n_8, n_9, n_10, n_12, n_40, n_48, n_57, n_59, n_72, n_99, n_102, n_103, n_107, n_108, n_192, n_255, n_256, n_999, n_1000, n_104, nI_add, pk_mul, n_cl, n_inT, n_le, n_lt, n_eq, n_m1, n_m1', n_lem1, n_m1le, n_ltm1, n_m1lt, n_lepred, n_shl, fa_or, e1, hA.1.2.1]
      refine ⟨fun _ => ⟨fun q => ?_, fun q => ⟨hA.1, an_in_nI (Nat.le_refl _) (by omega), fun σ1 g1 g2 g3 => ⟨_, rfl, s, m, 0, rfl, hs, hm, em, by omega, by omega, q, hA.fr g3 (by decide), g2, ?_, g3.lo (by decide), rfl, rfl⟩⟩⟩, fun q => absurd hy q⟩
      · rw [if_pos (show b 1 s = 0 from q)] at hZ
        exact hZ _ hA.met (ra_lo.rf.sw (by decide))
      · first | exact g1 | (rw [n_cl (by omega)] at g1; exact g1)
    · have e : bb_write a b s = (b, -2) := by
        unfold bb_write
        exact if_neg hy
      rw [e] at hZ
      have h9 := hZ σ hA ra_lo.rf
      simp (disch := omega) only [b_N_write_71, b_N_write_53, b_N_write_45, b_N_write_35, b_N_write_25, b_N_write_19, b_N_write_7, b_N_write_0, e_il2, e_al0, e_il1, e_is2i, e_is2r, e_is2n, e_inc2i, e_inc2r, e_inc2n, e_c, e_b1, e_b2, e_gi, e_gr, e_ald, e_zld, e_ir, e_cs1, e_cv4, e_hd, e_cv2, e_c10, e_c1i, e_c1r, e_sh0, e_sh1, e_sh2, e_sh3, e_sh4, e_tls, e_tln, e_tl0, e_tl1, cl_82, cl_95, ln_95, cl_108, ln_108, cl_110, ln_110, tg_82_14, tg_82_28, tg_82_30, q_N_isSheet, q_N_meets, q_N_lays, q_N_keep, Nat.reduceAdd, true_and, and_true, true_implies, not_true_eq_false, false_implies, not_false_eq_true, imp_self, forall_const, List.append_nil, ra_I, ra_J, ra_pad, true_or, or_true, Nat.reduceEqDiff, ra_bz, eq_self, if_true, if_false, false_and, and_false, Nat.zero_le, List.cons_append, List.nil_append, Nat.reduceLT, Nat.reduceLeDiff, Nat.reduceMul, Nat.reduceSub, n_0, n_1, n_2, n_3, n_4, n_5, n_6, n_7, n_8, n_9, n_10, n_12, n_40, n_48, n_57, n_59, n_72, n_99, n_102, n_103, n_107, n_108, n_192, n_255, n_256, n_999, n_1000, n_104, nI_add, pk_mul, n_cl, n_inT, n_le, n_lt, n_eq, n_m1, n_m1', n_lem1, n_m1le, n_ltm1, n_m1lt, n_lepred, n_shl, fa_or]
      exact ⟨fun q => absurd q hy, fun _ => h9⟩
  · intro as σ0 Z h0 μ L S σ hI
    obtain ⟨rfl, s, m, n, rfl, hs, hm, em, hn, hh, h1, hA, hP, hM, hlo, rfl, rfl⟩ := hI
    obtain ⟨_, e, hA0, hZ⟩ := x_f1 h0
    cases e
    have e : bb_write a b (nI s) = (bb_wr a b s (min (b 3 s).toNatClampNeg (ab_hc a)), nI (min (b 3 s).toNatClampNeg (ab_hc a))) := by
      unfold bb_write
      rw [if_pos (an_in_nI hs (by decide)), n_cl (by omega), if_neg h1]
    rw [e, em, n_cl (by omega)] at hZ
    obtain ⟨e1, e2, e3⟩ := hA.2.2.1 s (by omega)
    rw [bb_wr_o _ _ _ (by decide)] at e1 e2 e3
    rw [em] at e3
    have fin : n = min m (ab_hc a) → Z (some (.int (nI n))) σ := by
      intro q
      rw [← q] at hZ
      exact hZ σ hA hlo
    by_cases hlt : n < m ∧ n < ab_hc a
    · simp (disch := omega) only [b_N_write_53, b_N_write_45, b_N_write_35, b_N_write_25, b_N_write_19, b_N_write_10, b_N_write_7, b_N_write_0, e_il2, e_al0, e_il1, e_is2i, e_is2r, e_is2n, e_inc2i, e_inc2r, e_inc2n, e_c, e_b1, e_b2, e_gi, e_gr, e_ald, e_zld, e_ir, e_cs1, e_cv4, e_hd, e_cv2, e_c10, e_c1i, e_c1r, e_sh0, e_sh1, e_sh2, e_sh3, e_sh4, e_tls, e_tln, e_tl0, e_tl1, cl_82, cl_95, ln_95, cl_108, ln_108, cl_110, ln_110, tg_82_14, tg_82_28, tg_82_30, q_N_isSheet, q_N_meets, q_N_lays, q_N_keep, Nat.reduceAdd, true_and, and_true, true_implies, not_true_eq_false, false_implies, not_false_eq_true, imp_self, forall_const, List.append_nil, ra_I, ra_J, ra_pad, true_or, or_true, Nat.reduceEqDiff, ra_bz, eq_self, if_true, if_false, false_and, and_false, Nat.zero_le, List.cons_append, List.nil_append, Nat.reduceLT, Nat.reduceLeDiff, Nat.reduceMul, Nat.reduceSub, n_0, n_1, n_2, n_3, n_4, n_5, n_6, n_7, n_8, n_9, n_10, n_12, n_40, n_48, n_57, n_59, n_72, n_99, n_102, n_103, n_107, n_108, n_192, n_255, n_256, n_999, n_1000, n_104, nI_add, pk_mul, n_cl, n_inT, n_le, n_lt, n_eq, n_m1, n_m1', n_lem1, n_m1le, n_ltm1, n_m1lt, n_lepred, n_shl, fa_or, e2, e3, hP.1.1, (hM n hlt.2).2.2.1]
      refine ⟨fun q => by omega, fun _ => ⟨fun q => by omega, fun _ => ⟨(48 - (n + 1), 0, 0), lx1 (by omega), rfl, s, m, n + 1, rfl, hs, hm, em, by omega, by omega, h1, hA.item, hP.fr (cs := [111]) (ra_fr.rf.sw (by decide) (by decide)) (by simp [sw_at]) (by decide), ?_, hlo.sw (by decide), rfl, rfl⟩⟩⟩
      intro h hh
      have := hM h hh
      simpa [sw_at] using this
    · simp (disch := omega) only [b_N_write_71, b_N_write_45, b_N_write_35, b_N_write_25, b_N_write_19, b_N_write_10, b_N_write_7, b_N_write_0, e_il2, e_al0, e_il1, e_is2i, e_is2r, e_is2n, e_inc2i, e_inc2r, e_inc2n, e_c, e_b1, e_b2, e_gi, e_gr, e_ald, e_zld, e_ir, e_cs1, e_cv4, e_hd, e_cv2, e_c10, e_c1i, e_c1r, e_sh0, e_sh1, e_sh2, e_sh3, e_sh4, e_tls, e_tln, e_tl0, e_tl1, cl_82, cl_95, ln_95, cl_108, ln_108, cl_110, ln_110, tg_82_14, tg_82_28, tg_82_30, q_N_isSheet, q_N_meets, q_N_lays, q_N_keep, Nat.reduceAdd, true_and, and_true, true_implies, not_true_eq_false, false_implies, not_false_eq_true, imp_self, forall_const, List.append_nil, ra_I, ra_J, ra_pad, true_or, or_true, Nat.reduceEqDiff, ra_bz, eq_self, if_true, if_false, false_and, and_false, Nat.zero_le, List.cons_append, List.nil_append, Nat.reduceLT, Nat.reduceLeDiff, Nat.reduceMul, Nat.reduceSub, n_0, n_1, n_2, n_3, n_4, n_5, n_6, n_7, n_8, n_9, n_10, n_12, n_40, n_48, n_57, n_59, n_72, n_99, n_102, n_103, n_107, n_108, n_192, n_255, n_256, n_999, n_1000, n_104, nI_add, pk_mul, n_cl, n_inT, n_le, n_lt, n_eq, n_m1, n_m1', n_lem1, n_m1le, n_ltm1, n_m1lt, n_lepred, n_shl, fa_or, e3, hP.1.1]
      exact ⟨fun q => fin (by omega), fun q => ⟨fun q => fin (by omega), fun q => by omega⟩⟩
noncomputable def ab_rd (a : Ab) (b : Bb) (s : Nat) : Nat → Ab
  | 0 => a
  | n + 1 => (ab_rain (ab_rd a b s n) (b 4 (48 * s + n))).1
theorem ab_u_W {a : Ab} (hW : ab_W a) : (∀ n, n ≤ 12 → ab_W (ab_u a 3 0 n)) ∧ (∀ k v, v ≤ 9 → ab_W (ab_u a 4 k v)) := by
  constructor
  · intro n hn
    obtain ⟨h1, h2, h3, h4, h5, h7⟩ := hW
    refine ⟨by simpa [ab_u] using h1, by simpa [ab_u] using h2, by simpa [ab_u] using h3, by simpa [ab_u] using h4, by simpa [ab_u] using hn, by simpa [ab_u] using h7⟩
  · intro k v hv
    obtain ⟨h1, h2, h3, h4, h5, h6, h7⟩ := hW
    refine ⟨by simpa [ab_u] using h1, by simpa [ab_u] using h2, by simpa [ab_u] using h3, by simpa [ab_u] using h4, by simpa [ab_u] using h5, fun q => ?_, by simpa [ab_u] using h7⟩
    unfold ab_u
    split
    · exact hv
    · exact h6 q
theorem ab_rain_W {a : Ab} (hW : ab_W a) (v : Int32) : ab_W (ab_rain a v).1 := by
  by_cases hy : an_in v 9
  · obtain ⟨n, hn, rfl⟩ := an_in_of hy (by decide)
    have := hW.2.2.2.2.1
    by_cases hf : a 3 0 = 12
    · rw [ab_rain_full hn hf]
      exact hW
    · rw [ab_rain_yes hn hf]
      exact (ab_u_W ((ab_u_W hW).2 _ _ hn)).1 _ (by omega)
  · rw [ab_rain_no hy]
    exact hW
theorem ab_rd_W {a : Ab} (hW : ab_W a) (b : Bb) (s : Nat) : ∀ n, ab_W (ab_rd a b s n)
  | 0 => hW
  | n + 1 => ab_rain_W (ab_rd_W hW b s n) _
noncomputable def rd_n (a : Ab) (b : Bb) (s m : Nat) : Nat := fa_first (fun n => decide ((ab_rain (ab_rd a b s n) (b 4 (48 * s + n))).2 ≤ 0)) m
noncomputable def ab_read (a : Ab) (b : Bb) (s : Int32) : Ab × Bb × Int32 := by
  classical
  exact if an_in s 3 then (if b 1 s.toNatClampNeg = 0 then (a, bb_u b 5 0 1, -11) else (ab_rd a b s.toNatClampNeg (rd_n a b s.toNatClampNeg (b 3 s.toNatClampNeg).toNatClampNeg), b, nI (rd_n a b s.toNatClampNeg (b 3 s.toNatClampNeg).toNatClampNeg))) else (a, b, -2)
theorem ab_rain_stop {a : Ab} (hW : ab_W a) {v : Int32} (h : (ab_rain a v).2 ≤ 0) : (ab_rain a v).1 = a := by
  by_cases hy : an_in v 9
  · obtain ⟨n, hn, rfl⟩ := an_in_of hy (by decide)
    have := hW.2.2.2.2.1
    by_cases hf : a 3 0 = 12
    · rw [ab_rain_full hn hf]
    · rw [ab_rain_yes hn hf] at h
      have h2 : nI (a 3 0 + 1) ≤ nI 0 := h
      rw [n_le (by omega) (by omega)] at h2
      omega
  · rw [ab_rain_no hy]
def sp_N_read (a : Ab) (b : Bb) : ra_Sp := ra_f1 82 (fun s σ Z => rn_A a b σ ∧ ∀ σ', rn_A (ab_read a b s).1 (ab_read a b s).2.1 σ' → ra_lo σ σ' → Z (some (.int (ab_read a b s).2.2)) σ')
theorem q_N_read {a : Ab} {b : Bb} {oo : Nat} {s : Int32} {σ : ra_St} {Z : ra_R} : sp_N_read a b [.ref oo, .int s] σ Z = (oo = 82 ∧ (rn_A a b σ ∧ ∀ σ', rn_A (ab_read a b s).1 (ab_read a b s).2.1 σ' → ra_lo σ σ' → Z (some (.int (ab_read a b s).2.2)) σ')) := rfl
def I_N_read (a : Ab) (b : Bb) (Z : ra_R) (as : List Value) (σ0 : ra_St) (c : Nat) (μ : ra_M) : ra_K := fun L S σ => S = [] ∧ ∃ s m n : Nat, as = [.ref 82, .int (nI s)] ∧ s ≤ 3 ∧ m ≤ 48 ∧ b 3 s = nI m ∧ n ≤ m ∧ b 1 s ≠ 0 ∧ (∀ k, k < n → ¬ (ab_rain (ab_rd a b s k) (b 4 (48 * s + k))).2 ≤ 0) ∧ rn_A (ab_rd a b s n) b σ ∧ ra_lo σ0 σ ∧ μ = (48 - n, 0, 0) ∧ L = [.ref 82, .int (nI s), .int (nI n)]
theorem k_N_read {l : Launch} {X : ra_X} {a : Ab} {b : Bb} (hW : ab_W a) (hB : bb_W b) : ra_MOK l X mi_N_read (sp_N_read a b) := by
  refine g_N_read k_N_isSheet k_N_meets (k_N_rainMore (b := b)) (sp_N_read a b) (I_N_read a b) ?_ ?_
  · intro as σ Z _ _ h
    obtain ⟨s, rfl, hA, hZ⟩ := x_f1 h
    by_cases hy : an_in s 3
    · obtain ⟨s, hs, rfl⟩ := an_in_of hy (by decide)
      have e : ab_read a b (nI s) = if b 1 s = 0 then (a, bb_u b 5 0 1, -11) else (ab_rd a b s (rd_n a b s (b 3 s).toNatClampNeg), b, nI (rd_n a b s (b 3 s).toNatClampNeg)) := by
        unfold ab_read
        rw [if_pos hy, n_cl (by omega)]
      rw [e] at hZ
      obtain ⟨e1, e2, e3⟩ := hA.2.2.1 s (by omega)
      obtain ⟨-, -, m, hm, em⟩ := hB s (by omega)
      simp (disch := omega) only [b_N_read_61, b_N_read_55, b_N_read_37, b_N_read_27, b_N_read_25, b_N_read_19, b_N_read_10, b_N_read_7, b_N_read_0, e_il2, e_al0, e_il1, e_is2i, e_is2r, e_is2n, e_inc2i, e_inc2r, e_inc2n, e_c, e_i2, e_b1, e_b2, e_gr, e_ald, e_zld, e_ir, e_cs1, e_cv2, e_hd, e_c10, e_c1i, e_c1r, e_sh0, e_sh1, e_sh2, e_sh3, e_sh4, e_tls, e_tln, e_tl0, e_tl1, cl_82, cl_108, ln_108, cl_110, ln_110, cl_111, ln_111, tg_82_28, tg_82_30, tg_82_31, q_N_isSheet, q_N_meets, q_N_rainMore, Nat.reduceAdd, true_and, and_true, true_implies, not_true_eq_false, false_implies, not_false_eq_true, imp_self, forall_const, List.append_nil, ra_I, ra_J, ra_pad, true_or, or_true, Nat.reduceEqDiff, ra_bz, eq_self, if_true, if_false, false_and, and_false, Nat.zero_le, List.cons_append, List.nil_append, Nat.reduceLT, Nat.reduceLeDiff, Nat.reduceMul, Nat.reduceSub, n_0, n_1, n_2, n_3, n_4, n_5, n_6, n_7, n_8, n_9, n_10, n_12, n_40, n_48, n_57, n_59, n_72, n_99, n_102, n_103, n_107, n_108, n_192, n_255, n_256, n_999, n_1000, n_104, nI_add, pk_mul, n_cl, n_inT, n_le, n_lt, n_eq, n_m1, n_m1', n_lem1, n_m1le, n_ltm1, n_m1lt, n_lepred, n_shl, fa_or, e1]
      refine ⟨fun _ => ⟨fun q => ?_, fun q => ⟨_, rfl, s, m, 0, rfl, hs, hm, em, by omega, q, fun k hk => by omega, hA, ra_lo.rf, rfl, rfl⟩⟩, fun q => absurd hy q⟩
      rw [if_pos (show b 1 s = 0 from q)] at hZ
      exact hZ _ hA.met (ra_lo.rf.sw (by decide))
    · have e : ab_read a b s = (a, b, -2) := by
        unfold ab_read
        exact if_neg hy
      rw [e] at hZ
      have h9 := hZ σ hA ra_lo.rf
      simp (disch := omega) only [b_N_read_61, b_N_read_55, b_N_read_37, b_N_read_27, b_N_read_25, b_N_read_19, b_N_read_7, b_N_read_0, e_il2, e_al0, e_il1, e_is2i, e_is2r, e_is2n, e_inc2i, e_inc2r, e_inc2n, e_c, e_i2, e_b1, e_b2, e_gr, e_ald, e_zld, e_ir, e_cs1, e_cv2, e_hd, e_c10, e_c1i, e_c1r, e_sh0, e_sh1, e_sh2, e_sh3, e_sh4, e_tls, e_tln, e_tl0, e_tl1, cl_82, cl_108, ln_108, cl_110, ln_110, cl_111, ln_111, tg_82_28, tg_82_30, tg_82_31, q_N_isSheet, q_N_meets, q_N_rainMore, Nat.reduceAdd, true_and, and_true, true_implies, not_true_eq_false, false_implies, not_false_eq_true, imp_self, forall_const, List.append_nil, ra_I, ra_J, ra_pad, true_or, or_true, Nat.reduceEqDiff, ra_bz, eq_self, if_true, if_false, false_and, and_false, Nat.zero_le, List.cons_append, List.nil_append, Nat.reduceLT, Nat.reduceLeDiff, Nat.reduceMul, Nat.reduceSub, n_0, n_1, n_2, n_3, n_4, n_5, n_6, n_7, n_8, n_9, n_10, n_12, n_40, n_48, n_57, n_59, n_72, n_99, n_102, n_103, n_107, n_108, n_192, n_255, n_256, n_999, n_1000, n_104, nI_add, pk_mul, n_cl, n_inT, n_le, n_lt, n_eq, n_m1, n_m1', n_lem1, n_m1le, n_ltm1, n_m1lt, n_lepred, n_shl, fa_or]
      exact ⟨fun q => absurd q hy, fun _ => h9⟩
  · intro as σ0 Z h0 μ L S σ hI
    obtain ⟨rfl, s, m, n, rfl, hs, hm, em, hn, h1, hno, hA, hlo, rfl, rfl⟩ := hI
    obtain ⟨_, e, hA0, hZ⟩ := x_f1 h0
    cases e
    have e : ab_read a b (nI s) = (ab_rd a b s (rd_n a b s (b 3 s).toNatClampNeg), b, nI (rd_n a b s (b 3 s).toNatClampNeg)) := by
      unfold ab_read
      rw [if_pos (an_in_nI hs (by decide)), n_cl (by omega), if_neg h1]
    rw [e, em, n_cl (by omega)] at hZ
    obtain ⟨e1, e2, e3⟩ := hA.2.2.1 s (by omega)
    rw [em] at e3
    have hfa : ∀ k, k < n → decide ((ab_rain (ab_rd a b s k) (b 4 (48 * s + k))).2 ≤ 0) = false := fun k hk => decide_eq_false (hno k hk)
    by_cases hlt : n < m
    · have hi : σ 111 (48 * s + n) = b 4 (48 * s + n) := hA.2.2.2.1 _ (by omega)
      simp (disch := omega) only [b_N_read_61, b_N_read_55, b_N_read_37, b_N_read_27, b_N_read_25, b_N_read_19, b_N_read_10, b_N_read_7, b_N_read_0, e_il2, e_al0, e_il1, e_is2i, e_is2r, e_is2n, e_inc2i, e_inc2r, e_inc2n, e_c, e_i2, e_b1, e_b2, e_gr, e_ald, e_zld, e_ir, e_cs1, e_cv2, e_hd, e_c10, e_c1i, e_c1r, e_sh0, e_sh1, e_sh2, e_sh3, e_sh4, e_tls, e_tln, e_tl0, e_tl1, cl_82, cl_108, ln_108, cl_110, ln_110, cl_111, ln_111, tg_82_28, tg_82_30, tg_82_31, q_N_isSheet, q_N_meets, q_N_rainMore, Nat.reduceAdd, true_and, and_true, true_implies, not_true_eq_false, false_implies, not_false_eq_true, imp_self, forall_const, List.append_nil, ra_I, ra_J, ra_pad, true_or, or_true, Nat.reduceEqDiff, ra_bz, eq_self, if_true, if_false, false_and, and_false, Nat.zero_le, List.cons_append, List.nil_append, Nat.reduceLT, Nat.reduceLeDiff, Nat.reduceMul, Nat.reduceSub, n_0, n_1, n_2, n_3, n_4, n_5, n_6, n_7, n_8, n_9, n_10, n_12, n_40, n_48, n_57, n_59, n_72, n_99, n_102, n_103, n_107, n_108, n_192, n_255, n_256, n_999, n_1000, n_104, nI_add, pk_mul, n_cl, n_inT, n_le, n_lt, n_eq, n_m1, n_m1', n_lem1, n_m1le, n_ltm1, n_m1lt, n_lepred, n_shl, fa_or, e3, hi]
      refine ⟨fun q => by omega, fun _ => ⟨ab_rd a b s n, ab_rd_W hW b s n, hA, fun σ' g1 g2 => ⟨fun q => ?_, fun q => ⟨(48 - (n + 1), 0, 0), lx1 (by omega), rfl, s, m, n + 1, rfl, hs, hm, em, by omega, h1, fun k hk => ?_, g1, hlo.tr g2, rfl, rfl⟩⟩⟩⟩
      · have e9 : rd_n a b s m = n := fa_first_eq hfa hlt (decide_eq_true q)
        rw [e9] at hZ
        rw [ab_rain_stop (ab_rd_W hW b s n) q] at g1
        exact hZ σ' g1 (hlo.tr g2)
      · rcases (show k < n ∨ k = n by omega) with z | rfl
        · exact hno k z
        · exact q
    · simp (disch := omega) only [b_N_read_61, b_N_read_55, b_N_read_27, b_N_read_25, b_N_read_19, b_N_read_10, b_N_read_7, b_N_read_0, e_il2, e_al0, e_il1, e_is2i, e_is2r, e_is2n, e_inc2i, e_inc2r, e_inc2n, e_c, e_i2, e_b1, e_b2, e_gr, e_ald, e_zld, e_ir, e_cs1, e_cv2, e_hd, e_c10, e_c1i, e_c1r, e_sh0, e_sh1, e_sh2, e_sh3, e_sh4, e_tls, e_tln, e_tl0, e_tl1, cl_82, cl_108, ln_108, cl_110, ln_110, cl_111, ln_111, tg_82_28, tg_82_30, tg_82_31, q_N_isSheet, q_N_meets, q_N_rainMore, Nat.reduceAdd, true_and, and_true, true_implies, not_true_eq_false, false_implies, not_false_eq_true, imp_self, forall_const, List.append_nil, ra_I, ra_J, ra_pad, true_or, or_true, Nat.reduceEqDiff, ra_bz, eq_self, if_true, if_false, false_and, and_false, Nat.zero_le, List.cons_append, List.nil_append, Nat.reduceLT, Nat.reduceLeDiff, Nat.reduceMul, Nat.reduceSub, n_0, n_1, n_2, n_3, n_4, n_5, n_6, n_7, n_8, n_9, n_10, n_12, n_40, n_48, n_57, n_59, n_72, n_99, n_102, n_103, n_107, n_108, n_192, n_255, n_256, n_999, n_1000, n_104, nI_add, pk_mul, n_cl, n_inT, n_le, n_lt, n_eq, n_m1, n_m1', n_lem1, n_m1le, n_ltm1, n_m1lt, n_lepred, n_shl, fa_or, e3]
      refine ⟨fun _ => ?_, fun q => by omega⟩
      have hn2 : n = m := by omega
      subst hn2
      have e9 : rd_n a b s n = n := fa_first_all hfa
      rw [e9] at hZ
      exact hZ σ hA hlo
