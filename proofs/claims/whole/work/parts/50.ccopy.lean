/-! the class: copies -/
def sp_Sh_lacks (b : Bb) (s : Nat) : ra_Sp := ra_f2 (74+2*s) (fun i n σ Z => s < 4 ∧ rc_C b σ ∧ bb_W b ∧ b 1 s = 1 ∧ ra_bz (i < 0 ∨ n < 0 ∨ bb_far b s i n) Z σ)
theorem q_Sh_lacks {b : Bb} {s : Nat} {oo : Nat} {i n : Int32} {σ : ra_St} {Z : ra_R} : sp_Sh_lacks b s [.ref oo, .int i, .int n] σ Z = (oo = (74+2*s) ∧ (s < 4 ∧ rc_C b σ ∧ bb_W b ∧ b 1 s = 1 ∧ ra_bz (i < 0 ∨ n < 0 ∨ bb_far b s i n) Z σ)) := rfl
theorem k_Sh_lacks {l : Launch} {X : ra_X} {b : Bb} {s : Nat} : ra_MOK l X mi_Sh_lacks (sp_Sh_lacks b s) := by
  refine g_Sh_lacks (sp_Sh_lacks b s) ?_
  intro as σ Z _ _ h
  obtain ⟨i, n, rfl, hs, hC, hB, h1, hZ⟩ := x_f2 h
  obtain ⟨t1, t2, t3, t4, t5⟩ := tg_q s hs
  obtain ⟨d1, d2, d3, d4⟩ := (hC.2.2 s hs).2 h1
  obtain ⟨-, -, m, hm, em⟩ := hB s hs
  simp (disch := omega) only [b_Sh_lacks_31, b_Sh_lacks_30, b_Sh_lacks_26, b_Sh_lacks_16, b_Sh_lacks_8, b_Sh_lacks_4, b_Sh_lacks_0, e_il2, e_al0, e_il1, e_c, e_i2, e_b1, e_b2, e_gi, e_zr, Nat.reduceAdd, true_and, and_true, true_implies, not_true_eq_false, false_implies, not_false_eq_true, imp_self, forall_const, List.append_nil, ra_I, ra_J, ra_pad, true_or, or_true, Nat.reduceEqDiff, ra_bz, eq_self, if_true, if_false, false_and, and_false, Nat.zero_le, List.cons_append, List.nil_append, Nat.reduceLT, Nat.reduceLeDiff, Nat.reduceMul, Nat.reduceSub, n_0, n_1, n_2, n_3, n_4, n_5, n_6, n_7, n_8, n_9, n_10, n_12, n_40, n_48, n_57, n_59, n_72, n_99, n_102, n_103, n_107, n_108, n_192, n_255, n_256, n_999, n_1000, n_104, nI_add, pk_mul, n_cl, n_inT, n_le, n_lt, n_eq, n_m1, n_m1', n_lem1, n_m1le, n_ltm1, n_m1lt, n_lepred, n_shl, fa_or, t2, d3]
  refine ⟨fun q => hZ.1 (Or.inl q), fun q => ⟨fun q2 => hZ.1 (Or.inr (Or.inl q2)), fun q2 => ?_⟩⟩
  obtain ⟨i, hi, rfl⟩ := nI_of q
  obtain ⟨n, hn, rfl⟩ := nI_of q2
  have hfar : bb_far b s (nI i) (nI n) ↔ m < i + n := by
    unfold bb_far
    rw [em, nI_toInt hi, nI_toInt hn, nI_toInt (by omega)]
    omega
  rw [em]
  have q' : ¬ nI i < 0 := q
  have q2' : ¬ nI n < 0 := q2
  refine ⟨fun q3 => hZ.1 (Or.inr (Or.inr (hfar.mpr ?_))), fun q3 => ?_⟩
  · rw [n_lt (by omega) hi] at q3
    omega
  · rw [n_lt (by omega) hi] at q3
    rw [n_sub (by omega), n_le hn (by omega)]
    refine ⟨fun q4 => hZ.2 (fun z => ?_), fun q4 => hZ.1 (Or.inr (Or.inr (hfar.mpr (by omega))))⟩
    rcases z with z | z | z
    · exact q' z
    · exact q2' z
    · have := hfar.mp z
      omega
def sp_R_copy (a : Ab) (b : Bb) (n : Nat) : ra_Sp := ra_f5 0 (fun s i t j k σ Z => rc_I a b n σ ∧ bb_W b ∧ ∀ σ', rc_I a (bb_copy b s i t j k).1 (n + 1) σ' → ra_up σ σ' → Z (some (.int (bb_copy b s i t j k).2)) σ')
theorem q_R_copy {a : Ab} {b : Bb} {n : Nat} {oo : Nat} {s i t j k : Int32} {σ : ra_St} {Z : ra_R} : sp_R_copy a b n [.ref oo, .int s, .int i, .int t, .int j, .int k] σ Z = (oo = 0 ∧ (rc_I a b n σ ∧ bb_W b ∧ ∀ σ', rc_I a (bb_copy b s i t j k).1 (n + 1) σ' → ra_up σ σ' → Z (some (.int (bb_copy b s i t j k).2)) σ')) := rfl
theorem k_R_copy {l : Launch} {X : ra_X} {a : Ab} {b : Bb} {n : Nat} : ra_MOK l X mi_R_copy (sp_R_copy a b n) := by
  refine g_R_copy (c2 := fun as σ Z => ∃ s : Nat, True ∧ sp_Sh_lacks b s as σ Z) k_R_isNoSheet k_R_find (ra_MOK_ex (fun s _ => k_Sh_lacks)) (sp_R_copy a b n) ?_
  intro as σ Z _ _ h
  obtain ⟨s, i, t, j, k, rfl, hI, hB, hZ⟩ := x_f5 h
  have hC := hI.2.2.2.2.1
  by_cases hy : an_in s 3 ∧ an_in t 3
  · obtain ⟨s, hs, rfl⟩ := an_in_of hy.1 (by decide)
    obtain ⟨t, ht, rfl⟩ := an_in_of hy.2 (by decide)
    have e : bb_copy b (nI s) i (nI t) j k = if b 1 s = 0 ∨ b 1 t = 0 then (bb_u b 5 0 1, -11) else if b 2 s = b 2 t then (if i < 0 ∨ j < 0 ∨ k < 0 ∨ bb_far b s i k ∨ bb_far b t j k then (bb_u b 5 0 2, -12) else (bb_cp b s i.toNatClampNeg t j.toNatClampNeg k.toNatClampNeg, 1)) else (bb_u b 5 0 4, -14) := by
      unfold bb_copy
      rw [if_pos hy, n_cl (by omega), n_cl (by omega)]
    obtain ⟨t1, t2, t3, t4, t5⟩ := tg_q s (by omega)
    obtain ⟨u1, u2, u3, u4, u5⟩ := tg_q t (by omega)
    obtain ⟨c1, c2⟩ := hC.2.2 s (by omega)
    obtain ⟨f1, f2⟩ := hC.2.2 t (by omega)
    rcases (hB s (by omega)).1 with q0 | q1
    · rw [e, if_pos (Or.inl q0)] at hZ
      simp (disch := omega) only [b_R_copy_103, b_R_copy_97, b_R_copy_85, b_R_copy_74, b_R_copy_68, b_R_copy_55, b_R_copy_49, b_R_copy_17, b_R_copy_14, b_R_copy_7, b_R_copy_0, e_al6, e_il2, e_al7, e_il4, e_il5, e_al0, e_il1, e_il3, e_as6i, e_as6r, e_as6n, e_as7i, e_as7r, e_as7n, e_c, e_b1, e_b2, e_gi, e_gr, e_rld, e_cpy, e_ir, e_cs1, e_cv2, e_hd, e_cv3, e_c10, e_c1i, e_c1r, e_sh0, e_sh1, e_sh2, e_sh3, e_sh4, e_tls, e_tln, e_tl0, e_tl1, cl_0, cl_73, ln_73, tg_0_8, q_R_isNoSheet, q_R_find, q_Sh_lacks, Nat.reduceAdd, true_and, and_true, true_implies, not_true_eq_false, false_implies, not_false_eq_true, imp_self, forall_const, List.append_nil, ra_I, ra_J, ra_pad, true_or, or_true, Nat.reduceEqDiff, ra_bz, eq_self, if_true, if_false, false_and, and_false, Nat.zero_le, List.cons_append, List.nil_append, Nat.reduceLT, Nat.reduceLeDiff, Nat.reduceMul, Nat.reduceSub, n_0, n_1, n_2, n_3, n_4, n_5, n_6, n_7, n_8, n_9, n_10, n_12, n_40, n_48, n_57, n_59, n_72, n_99, n_102, n_103, n_107, n_108, n_192, n_255, n_256, n_999, n_1000, n_104, nI_add, pk_mul, n_cl, n_inT, n_le, n_lt, n_eq, n_m1, n_m1', n_lem1, n_m1le, n_ltm1, n_m1lt, n_lepred, n_shl, fa_or, t1, t2, u1, u2, c1 q0]
      exact ⟨fun q => absurd hy.1 q, fun _ => ⟨fun q => absurd hy.2 q, fun _ => hZ _ hI.met.1 hI.met.2⟩⟩
    · obtain ⟨d1, d2, d3, d4⟩ := c2 q1
      rcases (hB t (by omega)).1 with r0 | r1
      · rw [e, if_pos (Or.inr r0)] at hZ
        simp (disch := omega) only [b_R_copy_103, b_R_copy_97, b_R_copy_85, b_R_copy_74, b_R_copy_68, b_R_copy_49, b_R_copy_41, b_R_copy_17, b_R_copy_14, b_R_copy_7, b_R_copy_0, e_al6, e_il2, e_al7, e_il4, e_il5, e_al0, e_il1, e_il3, e_as6i, e_as6r, e_as6n, e_as7i, e_as7r, e_as7n, e_c, e_b1, e_b2, e_gi, e_gr, e_rld, e_cpy, e_ir, e_cs1, e_cv2, e_hd, e_cv3, e_c10, e_c1i, e_c1r, e_sh0, e_sh1, e_sh2, e_sh3, e_sh4, e_tls, e_tln, e_tl0, e_tl1, cl_0, cl_73, ln_73, tg_0_8, q_R_isNoSheet, q_R_find, q_Sh_lacks, Nat.reduceAdd, true_and, and_true, true_implies, not_true_eq_false, false_implies, not_false_eq_true, imp_self, forall_const, List.append_nil, ra_I, ra_J, ra_pad, true_or, or_true, Nat.reduceEqDiff, ra_bz, eq_self, if_true, if_false, false_and, and_false, Nat.zero_le, List.cons_append, List.nil_append, Nat.reduceLT, Nat.reduceLeDiff, Nat.reduceMul, Nat.reduceSub, n_0, n_1, n_2, n_3, n_4, n_5, n_6, n_7, n_8, n_9, n_10, n_12, n_40, n_48, n_57, n_59, n_72, n_99, n_102, n_103, n_107, n_108, n_192, n_255, n_256, n_999, n_1000, n_104, nI_add, pk_mul, n_cl, n_inT, n_le, n_lt, n_eq, n_m1, n_m1', n_lem1, n_m1le, n_ltm1, n_m1lt, n_lepred, n_shl, fa_or, t1, t2, u1, u2, d1, f1 r0]
        exact ⟨fun q => absurd hy.1 q, fun _ => ⟨fun q => absurd hy.2 q, fun _ => hZ _ hI.met.1 hI.met.2⟩⟩
      · obtain ⟨g1, g2, g3, g4⟩ := f2 r1
        rw [e, if_neg (fun z => z.elim (fun z => by rw [q1] at z; exact absurd z (by decide)) (fun z => by rw [r1] at z; exact absurd z (by decide)))] at hZ
        simp (disch := omega) only [b_R_copy_103, b_R_copy_97, b_R_copy_85, b_R_copy_74, b_R_copy_68, b_R_copy_55, b_R_copy_49, b_R_copy_41, b_R_copy_17, b_R_copy_14, b_R_copy_7, b_R_copy_0, e_al6, e_il2, e_al7, e_il4, e_il5, e_al0, e_il1, e_il3, e_as6i, e_as6r, e_as6n, e_as7i, e_as7r, e_as7n, e_c, e_b1, e_b2, e_gi, e_gr, e_rld, e_cpy, e_ir, e_cs1, e_cv2, e_hd, e_cv3, e_c10, e_c1i, e_c1r, e_sh0, e_sh1, e_sh2, e_sh3, e_sh4, e_tls, e_tln, e_tl0, e_tl1, cl_0, cl_73, ln_73, tg_0_8, q_R_isNoSheet, q_R_find, q_Sh_lacks, Nat.reduceAdd, true_and, and_true, true_implies, not_true_eq_false, false_implies, not_false_eq_true, imp_self, forall_const, List.append_nil, ra_I, ra_J, ra_pad, true_or, or_true, Nat.reduceEqDiff, ra_bz, eq_self, if_true, if_false, false_and, and_false, Nat.zero_le, List.cons_append, List.nil_append, Nat.reduceLT, Nat.reduceLeDiff, Nat.reduceMul, Nat.reduceSub, n_0, n_1, n_2, n_3, n_4, n_5, n_6, n_7, n_8, n_9, n_10, n_12, n_40, n_48, n_57, n_59, n_72, n_99, n_102, n_103, n_107, n_108, n_192, n_255, n_256, n_999, n_1000, n_104, nI_add, pk_mul, n_cl, n_inT, n_le, n_lt, n_eq, n_m1, n_m1', n_lem1, n_m1le, n_ltm1, n_m1lt, n_lepred, n_shl, fa_or, t1, t2, t3, t4, t5, u1, u2, u3, u4, u5, d1, d2, g1, g2, q_Sh_lacks]
        have far : b 2 s = b 2 t → (i < 0 ∨ j < 0 ∨ k < 0 ∨ bb_far b s i k ∨ bb_far b t j k) → Z (some (.int (-10 - 2))) (ra_sw σ 0 9 2) := by
          intro z1 z2
          rw [if_pos z1, if_pos z2] at hZ
          exact hZ _ hI.met.1 hI.met.2
        refine ⟨fun q => absurd hy.1 q, fun _ => ⟨fun q => absurd hy.2 q, fun _ => ⟨fun q => ⟨s, rfl, by omega, hC, hB, q1, fun z => far q ?_, fun z => ⟨t, rfl, by omega, hC, hB, r1, fun z' => far q ?_, fun z' => ?_⟩⟩, fun q => ?_⟩⟩⟩
        · rcases z with z | z | z
          · exact Or.inl z
          · exact Or.inr (Or.inr (Or.inl z))
          · exact Or.inr (Or.inr (Or.inr (Or.inl z)))
        · rcases z' with z | z | z
          · exact Or.inr (Or.inl z)
          · exact Or.inr (Or.inr (Or.inl z))
          · exact Or.inr (Or.inr (Or.inr (Or.inr z)))
        · have y1 : ¬ i < 0 := fun w => z (Or.inl w)
          have y2 : ¬ k < 0 := fun w => z (Or.inr (Or.inl w))
          have y3 : ¬ bb_far b s i k := fun w => z (Or.inr (Or.inr w))
          have y4 : ¬ j < 0 := fun w => z' (Or.inl w)
          have y5 : ¬ bb_far b t j k := fun w => z' (Or.inr (Or.inr w))
          rw [if_pos q, if_neg (fun w => w.elim y1 (fun w => w.elim y4 (fun w => w.elim y2 (fun w => w.elim y3 y5))))] at hZ
          obtain ⟨i, hi, rfl⟩ := nI_of y1
          obtain ⟨j, hj, rfl⟩ := nI_of y4
          obtain ⟨k, hk, rfl⟩ := nI_of y2
          have w1 := bb_far_no hB (by omega) hi hk y3
          have w2 := bb_far_no hB (by omega) hj hk y5
          rw [n_cl hi, n_cl hj, n_cl hk] at hZ ⊢
          obtain ⟨-, -, ms, hms, es⟩ := hB s (by omega)
          have w3 : i + k ≤ ms := by
            unfold bb_far at y3
            rw [es, nI_toInt hi, nI_toInt hk, nI_toInt (by omega)] at y3
            omega
          have hf : ra_fs [72, 74, 75, 76, 77, 78, 79, 80, 81] [(0, 9)] σ (ra_su σ (75 + 2 * t) (va_cpy (σ (75 + 2 * s)) (σ (75 + 2 * t)) i j k)) := fun c x hc _ => congrFun (ra_su_ne _ _ (fun w => hc (by rw [w]; simp; omega))) x
          refine ⟨y1, y4, y2, w1, w2, hZ _ (hI.oth ⟨fun h hh => ?_, ?_, fun r hr => ?_⟩ hf) (hf.hi (by decide))⟩
          · rw [show (ra_su σ (75 + 2 * t) _ : ra_St) 72 = σ 72 from ra_su_ne _ _ (by omega)]
            simpa [bb_cp] using hC.1 h hh
          · rw [show (ra_su σ (75 + 2 * t) _ : ra_St) 0 = σ 0 from ra_su_ne _ _ (by omega)]
            simpa [bb_cp] using hC.2.1
          · rw [show (ra_su σ (75 + 2 * t) _ : ra_St) (74 + 2 * r) = σ (74 + 2 * r) from ra_su_ne _ _ (by omega)]
            obtain ⟨x1, x2⟩ := hC.2.2 r hr
            refine ⟨fun w => x1 (by simpa [bb_cp] using w), fun w => ?_⟩
            have w9 : b 1 r = 1 := by simpa [bb_cp] using w
            obtain ⟨m1, m2, m3, m4⟩ := x2 w9
            obtain ⟨-, -, mr, hmr, er⟩ := hB r hr
            refine ⟨m1, by simpa [bb_cp] using m2, by simpa [bb_cp] using m3, fun x hx => ?_⟩
            have hx2 : x < (b 3 r).toNatClampNeg := by simpa [bb_cp] using hx
            have hx3 := hx2
            rw [er, n_cl (by omega)] at hx3
            show _ = (if (4 = 4 ∧ 48 * t + j ≤ 48 * r + x ∧ 48 * r + x < 48 * t + j + k) then b 4 (48 * s + i + (48 * r + x - (48 * t + j))) else b 4 (48 * r + x))
            by_cases er2 : r = t
            · subst er2
              rw [ra_su_self]
              unfold va_cpy
              by_cases hin : j ≤ x ∧ x < j + k
              · rw [if_pos hin, if_pos ⟨rfl, by omega, by omega⟩]
                have := d4 (i + (x - j)) (by rw [es, n_cl (by omega)]; omega)
                rw [this]
                congr 1
                omega
              · rw [if_neg hin, if_neg (by omega)]
                exact m4 x hx2
            · rw [show (ra_su σ (75 + 2 * t) _ : ra_St) (75 + 2 * r) = σ (75 + 2 * r) from ra_su_ne _ _ (by omega), if_neg (by omega)]
              exact m4 x hx2
        · rw [if_neg q] at hZ
          exact hZ _ hI.met.1 hI.met.2
  · have e : bb_copy b s i t j k = (b, -2) := by
      unfold bb_copy
      exact if_neg hy
    rw [e] at hZ
    have h9 := hZ σ (hI.more (by omega)) ra_up.rf
    simp (disch := omega) only [b_R_copy_103, b_R_copy_97, b_R_copy_85, b_R_copy_74, b_R_copy_68, b_R_copy_55, b_R_copy_49, b_R_copy_41, b_R_copy_14, b_R_copy_7, b_R_copy_0, e_al6, e_il2, e_al7, e_il4, e_il5, e_al0, e_il1, e_il3, e_as6i, e_as6r, e_as6n, e_as7i, e_as7r, e_as7n, e_c, e_b1, e_b2, e_gi, e_gr, e_rld, e_cpy, e_ir, e_cs1, e_cv2, e_hd, e_cv3, e_c10, e_c1i, e_c1r, e_sh0, e_sh1, e_sh2, e_sh3, e_sh4, e_tls, e_tln, e_tl0, e_tl1, cl_0, cl_73, ln_73, tg_0_8, q_R_isNoSheet, q_R_find, q_Sh_lacks, Nat.reduceAdd, true_and, and_true, true_implies, not_true_eq_false, false_implies, not_false_eq_true, imp_self, forall_const, List.append_nil, ra_I, ra_J, ra_pad, true_or, or_true, Nat.reduceEqDiff, ra_bz, eq_self, if_true, if_false, false_and, and_false, Nat.zero_le, List.cons_append, List.nil_append, Nat.reduceLT, Nat.reduceLeDiff, Nat.reduceMul, Nat.reduceSub, n_0, n_1, n_2, n_3, n_4, n_5, n_6, n_7, n_8, n_9, n_10, n_12, n_40, n_48, n_57, n_59, n_72, n_99, n_102, n_103, n_107, n_108, n_192, n_255, n_256, n_999, n_1000, n_104, nI_add, pk_mul, n_cl, n_inT, n_le, n_lt, n_eq, n_m1, n_m1', n_lem1, n_m1le, n_ltm1, n_m1lt, n_lepred, n_shl, fa_or]
    exact ⟨fun _ => h9, fun q => ⟨fun _ => h9, fun q2 => absurd ⟨Classical.not_not.mp q, Classical.not_not.mp q2⟩ hy⟩⟩
