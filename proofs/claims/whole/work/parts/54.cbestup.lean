/-! the class: the best way, brought up -/
theorem n_pop_lt' : ∀ N, N < 9 → ∀ s, s < 256 → s + 1 < 2 ^ N → n_pop s < N := by decide +kernel
theorem or_gt {s r : Nat} (h : s.testBit r = false) : s < s ||| 2 ^ r := by
  have h1 : s ≤ s ||| 2 ^ r := Nat.left_le_or
  have h2 : s ≠ s ||| 2 ^ r := by
    intro e
    have h3 := n_tb_or (b := s) (k := r) (i := r)
    rw [← e, h] at h3
    simp at h3
  omega
theorem rc_I.bst {a : Ab} {b : Bb} {n : Nat} {σ σ' : ra_St} (h : rc_I a b n σ) (hf : ra_fs [52, 53] [(41, 7), (41, 10)] σ σ') (hs : ∀ now, σ 1 11 + σ 41 8 = nI now → rc_B a now σ') : rc_I a b n σ' := by
  obtain ⟨h1, h2, h3, h4, h5, v, w, e', k, h6, h7, h8, h9, h10, h11, h12⟩ := h
  exact ⟨h1.fs hf (by decide), h2.fs hf (by decide), h3.fs hf (by decide), h4.fs hf (by decide), h5.fs hf (by decide), v, w, e', k, h6, h7.fs hf (by decide), h8.fs hf (by decide), h9.fs hf (by decide), h10.fs hf (by decide), hs _ (by rw [h7.1, h7.2.2.1, nI_add]), h12.fs hf (by decide)⟩
def sp_Ex_bringBestUp (a : Ab) (b : Bb) (n : Nat) : ra_Sp := ra_f0 41 (fun σ Z => rc_I a b n σ ∧ ∀ σ', rc_I a b n σ' → rs_B a σ' → ra_up σ σ' → Z none σ')
theorem q_Ex_bringBestUp {a : Ab} {b : Bb} {n : Nat} {oo : Nat} {σ : ra_St} {Z : ra_R} : sp_Ex_bringBestUp a b n [.ref oo] σ Z = (oo = 41 ∧ (rc_I a b n σ ∧ ∀ σ', rc_I a b n σ' → rs_B a σ' → ra_up σ σ' → Z none σ')) := rfl
def I_Ex_bringBestUp (a : Ab) (b : Bb) (n : Nat) (Z : ra_R) (as : List Value) (σ0 : ra_St) (t : Nat) (μ : ra_M) : ra_K := fun L S σ => S = [] ∧ as = [.ref 41] ∧ ∃ (s h : Nat) (u : Value), rc_V a σ ∧ rc_X a σ ∧ σ 41 10 = σ0 1 11 + σ0 41 8 ∧ ra_fs [52, 53] [(41, 7), (41, 10)] σ0 σ ∧
  match t with
  | 50 => μ = (1, 0, s) ∧ s < 2 ^ ab_hc a ∧ (∀ j, s ≤ j → j < 2 ^ ab_hc a → σ 53 j = nI (bV a j)) ∧ L = [.ref 41, .int (σ0 1 11 + σ0 41 8), .int (nI (2 ^ ab_hc a - 1)), .int (nI s - nI 1), u]
  | _ => μ = (0, 0, ab_hc a - h) ∧ h ≤ ab_hc a ∧ (∀ j, j < 2 ^ ab_hc a → σ 53 j = nI (bV a j)) ∧ σ 41 7 = nI (bV a 0) ∧ (∀ j, j < h → σ 52 j = nI (bR a j)) ∧ L = [.ref 41, .int (σ0 1 11 + σ0 41 8), .int (nI (2 ^ ab_hc a - 1)), .int (nI (bS a h)), .int (nI h)]
theorem k_Ex_bringBestUp {l : Launch} {X : ra_X} {a : Ab} {b : Bb} {n : Nat} (hn : n < 1000000000) (hW : ab_W a) : ra_MOK l X mi_Ex_bringBestUp (sp_Ex_bringBestUp a b n) := by
  have h8 := ab_hc_8 a
  obtain ⟨p1, p2⟩ := pow_256 a
  have hr12 := hW.2.2.2.2.1
  refine g_Ex_bringBestUp k_J_bitCount (k_Ex_bestRoof hW) (k_Ex_had (a := a)) (sp_Ex_bringBestUp a b n) (I_Ex_bringBestUp a b n) ?_ ?_ ?_
  · intro as σ Z _ _ h
    obtain ⟨rfl, hI, hZ⟩ := x_f0 h
    obtain ⟨h1, h2, h3, h4, h5, v, w, e', k, h6, h7, hh8, h9, h10, h11, h12⟩ := id hI
    have en : σ 1 11 + σ 41 8 = nI (v + e') := by rw [h7.1, h7.2.2.1, nI_add]
    simp (disch := omega) only [b_Ex_bringBestUp_145, b_Ex_bringBestUp_113, b_Ex_bringBestUp_101, b_Ex_bringBestUp_86, b_Ex_bringBestUp_54, b_Ex_bringBestUp_50, b_Ex_bringBestUp_22, b_Ex_bringBestUp_21, b_Ex_bringBestUp_0, e_al0, e_il4, e_il3, e_il1, e_il2, e_is3i, e_is3r, e_is3n, e_is4i, e_is4r, e_is4n, e_is2i, e_is2r, e_is2n, e_is1i, e_is1r, e_is1n, e_inc4i, e_inc4r, e_inc4n, e_inc3i, e_inc3r, e_inc3n, e_c, e_i2, e_b1, e_b2, e_gi, e_gr, e_pi, e_ald, e_ast, e_vr, e_cs1, e_cv3, e_hd, e_cv4, e_c10, e_c1i, e_c1r, e_sh0, e_sh1, e_sh2, e_sh3, e_sh4, e_tls, e_tln, e_tl0, e_tl1, cl_1, cl_41, cl_52, ln_52, cl_53, ln_53, tg_41_0, tg_41_3, tg_41_4, q_J_bitCount, q_Ex_bestRoof, q_Ex_had, Nat.reduceAdd, true_and, and_true, true_implies, not_true_eq_false, false_implies, not_false_eq_true, imp_self, forall_const, List.append_nil, ra_I, ra_J, ra_pad, true_or, or_true, Nat.reduceEqDiff, ra_bz, eq_self, if_true, if_false, false_and, and_false, Nat.zero_le, List.cons_append, List.nil_append, Nat.reduceLT, Nat.reduceLeDiff, Nat.reduceMul, Nat.reduceSub, n_0, n_1, n_2, n_3, n_4, n_5, n_6, n_7, n_8, n_9, n_10, n_12, n_40, n_48, n_57, n_59, n_72, n_99, n_102, n_103, n_107, n_108, n_192, n_255, n_256, n_999, n_1000, n_104, nI_add, pk_mul, n_cl, n_inT, n_le, n_lt, n_eq, n_m1, n_m1', n_lem1, n_m1le, n_ltm1, n_m1lt, n_lepred, n_shl, fa_or, h1.2.1.1, sw_at, n_sub]
    refine ⟨fun q => hZ σ hI (h11.yes (by omega) (q.trans en)) ra_up.rf, fun q => ?_⟩
    have hfs : ra_fs [52, 53] [(41, 7), (41, 10)] σ (ra_sw (ra_sw σ 41 10 (σ 1 11 + σ 41 8)) 53 (2 ^ ab_hc a - 1) (nI 0)) := (ra_fs.rf.sw (Or.inr (by decide))).sw (Or.inl (by decide))
    refine ⟨(1, 0, 2 ^ ab_hc a - 1), rfl, rfl, 2 ^ ab_hc a - 1, 0, _, h1.fs hfs (by decide), h3.fs hfs (by decide), by simp [sw_at], hfs, rfl, by omega, fun j hj1 hj2 => ?_, rfl⟩
    rw [show j = 2 ^ ab_hc a - 1 by omega, bV_top (by omega)]
    simp [sw_at]
  · -- 50
    intro as σ0 Z h0 μ L S σ hI
    obtain ⟨rfl, rfl, s, h, u, hV, hX, e10, hfs, rfl, hs, hF, rfl⟩ := hI
    cases s with
    | zero =>
      simp (disch := omega) only [b_Ex_bringBestUp_145, b_Ex_bringBestUp_113, b_Ex_bringBestUp_101, b_Ex_bringBestUp_86, b_Ex_bringBestUp_54, b_Ex_bringBestUp_50, b_Ex_bringBestUp_22, b_Ex_bringBestUp_21, b_Ex_bringBestUp_0, e_al0, e_il4, e_il3, e_il1, e_il2, e_is3i, e_is3r, e_is3n, e_is4i, e_is4r, e_is4n, e_is2i, e_is2r, e_is2n, e_is1i, e_is1r, e_is1n, e_inc4i, e_inc4r, e_inc4n, e_inc3i, e_inc3r, e_inc3n, e_c, e_i2, e_b1, e_b2, e_gi, e_gr, e_pi, e_ald, e_ast, e_vr, e_cs1, e_cv3, e_hd, e_cv4, e_c10, e_c1i, e_c1r, e_sh0, e_sh1, e_sh2, e_sh3, e_sh4, e_tls, e_tln, e_tl0, e_tl1, cl_1, cl_41, cl_52, ln_52, cl_53, ln_53, tg_41_0, tg_41_3, tg_41_4, q_J_bitCount, q_Ex_bestRoof, q_Ex_had, Nat.reduceAdd, true_and, and_true, true_implies, not_true_eq_false, false_implies, not_false_eq_true, imp_self, forall_const, List.append_nil, ra_I, ra_J, ra_pad, true_or, or_true, Nat.reduceEqDiff, ra_bz, eq_self, if_true, if_false, false_and, and_false, Nat.zero_le, List.cons_append, List.nil_append, Nat.reduceLT, Nat.reduceLeDiff, Nat.reduceMul, Nat.reduceSub, n_0, n_1, n_2, n_3, n_4, n_5, n_6, n_7, n_8, n_9, n_10, n_12, n_40, n_48, n_57, n_59, n_72, n_99, n_102, n_103, n_107, n_108, n_192, n_255, n_256, n_999, n_1000, n_104, nI_add, pk_mul, n_cl, n_inT, n_le, n_lt, n_eq, n_m1, n_m1', n_lem1, n_m1le, n_ltm1, n_m1lt, n_lepred, n_shl, fa_or, n_predlt]
      have hfs1 : ra_fs [52, 53] [(41, 7), (41, 10)] σ (ra_sw σ 41 7 (σ 53 0)) := ra_fs.rf.sw (Or.inr (by decide))
      refine ⟨(0, 0, ab_hc a - 0), lx1 (by decide), rfl, rfl, 0, 0, u, hV.fs hfs1 (by decide), hX.fs hfs1 (by decide), by simpa [sw_at] using e10, hfs.tr hfs1 (by decide) (by decide), rfl, by omega, fun j hj => ?_, ?_, fun j hj => by omega, rfl⟩
      · rw [sw_at, if_neg (by decide)]
        exact hF j (by omega) hj
      · rw [sw_at, if_pos rfl, if_pos rfl]
        exact hF 0 (by omega) (by omega)
    | succ s =>
      rw [show nI (s + 1) - nI 1 = nI s by rw [n_sub (by omega)]; rfl]
      have hp := n_pop_lt' (ab_hc a) (by omega) s (by omega) (by omega)
      obtain ⟨k1, k2, k3, k4⟩ := bro_V (a := a) (s := s) hp
      have hlt2 : s ||| 2 ^ bro (bg a (n_pop s) s) (bp s) (ab_hc a) < 2 ^ ab_hc a := Nat.or_lt_two_pow (by omega) (Nat.pow_lt_pow_right (by decide) k1)
      have hgt := or_gt k2
      have hv := hF _ (by omega) hlt2
      have ev : nI (mk_w a (n_pop s) (bro (bg a (n_pop s) s) (bp s) (ab_hc a))) + σ 53 (s ||| 2 ^ bro (bg a (n_pop s) s) (bp s) (ab_hc a)) = nI (bV a s) := by
        rw [hv, nI_add]
        exact congrArg nI k3
      simp (disch := omega) only [b_Ex_bringBestUp_145, b_Ex_bringBestUp_113, b_Ex_bringBestUp_101, b_Ex_bringBestUp_86, b_Ex_bringBestUp_54, b_Ex_bringBestUp_50, b_Ex_bringBestUp_22, b_Ex_bringBestUp_21, b_Ex_bringBestUp_0, e_al0, e_il4, e_il3, e_il1, e_il2, e_is3i, e_is3r, e_is3n, e_is4i, e_is4r, e_is4n, e_is2i, e_is2r, e_is2n, e_is1i, e_is1r, e_is1n, e_inc4i, e_inc4r, e_inc4n, e_inc3i, e_inc3r, e_inc3n, e_c, e_i2, e_b1, e_b2, e_gi, e_gr, e_pi, e_ald, e_ast, e_vr, e_cs1, e_cv3, e_hd, e_cv4, e_c10, e_c1i, e_c1r, e_sh0, e_sh1, e_sh2, e_sh3, e_sh4, e_tls, e_tln, e_tl0, e_tl1, cl_1, cl_41, cl_52, ln_52, cl_53, ln_53, tg_41_0, tg_41_3, tg_41_4, q_J_bitCount, q_Ex_bestRoof, q_Ex_had, Nat.reduceAdd, true_and, and_true, true_implies, not_true_eq_false, false_implies, not_false_eq_true, imp_self, forall_const, List.append_nil, ra_I, ra_J, ra_pad, true_or, or_true, Nat.reduceEqDiff, ra_bz, eq_self, if_true, if_false, false_and, and_false, Nat.zero_le, List.cons_append, List.nil_append, Nat.reduceLT, Nat.reduceLeDiff, Nat.reduceMul, Nat.reduceSub, n_0, n_1, n_2, n_3, n_4, n_5, n_6, n_7, n_8, n_9, n_10, n_12, n_40, n_48, n_57, n_59, n_72, n_99, n_102, n_103, n_107, n_108, n_192, n_255, n_256, n_999, n_1000, n_104, nI_add, pk_mul, n_cl, n_inT, n_le, n_lt, n_eq, n_m1, n_m1', n_lem1, n_m1le, n_ltm1, n_m1lt, n_lepred, n_shl, fa_or]
      have hfs1 : ra_fs [52, 53] [(41, 7), (41, 10)] σ (ra_sw σ 53 s (nI (bV a s))) := ra_fs.rf.sw (Or.inl (by decide))
      refine ⟨fun q => by omega, fun _ => ⟨hV, hX, n_pop s, s, rfl, rfl, by omega, by omega, fun r hr hb => ?_, hX, n_pop s, _, s, rfl, rfl, rfl, by omega, by omega, by omega, ?_⟩⟩
      · have := or_gt hb
        exact hF _ (by omega) (Nat.or_lt_two_pow (by omega) (Nat.pow_lt_pow_right (by decide) hr))
      · rw [ev]
        refine ⟨(1, 0, s), lx3 (by omega), rfl, rfl, s, h, _, hV.fs hfs1 (by decide), hX.fs hfs1 (by decide), by simpa [sw_at] using e10, hfs.tr hfs1 (by decide) (by decide), rfl, by omega, fun j hj1 hj2 => ?_, by rw [Int32.sub_eq_add_neg]⟩
        rw [sw_at, if_pos rfl]
        split
        · next e => rw [e]
        · exact hF j (by omega) hj2
  · -- 101
    intro as σ0 Z h0 μ L S σ hI
    obtain ⟨rfl, rfl, s, h, u, hV, hX, e10, hfs, rfl, hh, hF, e7, hB, rfl⟩ := hI
    obtain ⟨-, hI0, hZ⟩ := x_f0 h0
    by_cases hlt : h < ab_hc a
    · obtain ⟨hpop, hslt⟩ := bS_pop (a := a) h (by omega)
      have eb := bR_bro hlt
      obtain ⟨g1, g2, g3⟩ := bR_of hpop hlt
      simp (disch := omega) only [b_Ex_bringBestUp_113, b_Ex_bringBestUp_101, b_Ex_bringBestUp_86, b_Ex_bringBestUp_54, b_Ex_bringBestUp_50, b_Ex_bringBestUp_22, b_Ex_bringBestUp_21, b_Ex_bringBestUp_0, e_al0, e_il4, e_il3, e_il1, e_il2, e_is3i, e_is3r, e_is3n, e_is4i, e_is4r, e_is4n, e_is2i, e_is2r, e_is2n, e_is1i, e_is1r, e_is1n, e_inc4i, e_inc4r, e_inc4n, e_inc3i, e_inc3r, e_inc3n, e_c, e_i2, e_b1, e_b2, e_gi, e_gr, e_pi, e_ald, e_ast, e_vr, e_cs1, e_cv3, e_hd, e_cv4, e_c10, e_c1i, e_c1r, e_sh0, e_sh1, e_sh2, e_sh3, e_sh4, e_tls, e_tln, e_tl0, e_tl1, cl_1, cl_41, cl_52, ln_52, cl_53, ln_53, tg_41_0, tg_41_3, tg_41_4, q_J_bitCount, q_Ex_bestRoof, q_Ex_had, Nat.reduceAdd, true_and, and_true, true_implies, not_true_eq_false, false_implies, not_false_eq_true, imp_self, forall_const, List.append_nil, ra_I, ra_J, ra_pad, true_or, or_true, Nat.reduceEqDiff, ra_bz, eq_self, if_true, if_false, false_and, and_false, Nat.zero_le, List.cons_append, List.nil_append, Nat.reduceLT, Nat.reduceLeDiff, Nat.reduceMul, Nat.reduceSub, n_0, n_1, n_2, n_3, n_4, n_5, n_6, n_7, n_8, n_9, n_10, n_12, n_40, n_48, n_57, n_59, n_72, n_99, n_102, n_103, n_107, n_108, n_192, n_255, n_256, n_999, n_1000, n_104, nI_add, pk_mul, n_cl, n_inT, n_le, n_lt, n_eq, n_m1, n_m1', n_lem1, n_m1le, n_ltm1, n_m1lt, n_lepred, n_shl, fa_or, hV.2.1.1, sw_at]
      have hfs1 : ra_fs [52, 53] [(41, 7), (41, 10)] σ (ra_sw σ 52 h (nI (bR a h))) := ra_fs.rf.sw (Or.inl (by decide))
      refine ⟨fun q => by omega, fun _ => ⟨hV, hX, h, bS a h, rfl, rfl, by omega, by omega, fun r hr hb => hF _ (Nat.or_lt_two_pow hslt (Nat.pow_lt_pow_right (by decide) hr)), ?_⟩⟩
      rw [← eb]
      simp (disch := omega) only [n_shl, fa_or]
      refine ⟨(0, 0, ab_hc a - (h + 1)), lx3 (by omega), rfl, rfl, s, h + 1, u, hV.fs hfs1 (by decide), hX.fs hfs1 (by decide), by simpa [sw_at] using e10, hfs.tr hfs1 (by decide) (by decide), rfl, by omega, fun j hj => by rw [sw_at, if_neg (by decide)]; exact hF j hj, by simpa [sw_at] using e7, fun j hj => ?_, rfl⟩
      rw [sw_at, if_pos rfl]
      split
      · next e => rw [e]
      · exact hB j (by omega)
    · simp (disch := omega) only [b_Ex_bringBestUp_145, b_Ex_bringBestUp_101, b_Ex_bringBestUp_86, b_Ex_bringBestUp_54, b_Ex_bringBestUp_50, b_Ex_bringBestUp_22, b_Ex_bringBestUp_21, b_Ex_bringBestUp_0, e_al0, e_il4, e_il3, e_il1, e_il2, e_is3i, e_is3r, e_is3n, e_is4i, e_is4r, e_is4n, e_is2i, e_is2r, e_is2n, e_is1i, e_is1r, e_is1n, e_inc4i, e_inc4r, e_inc4n, e_inc3i, e_inc3r, e_inc3n, e_c, e_i2, e_b1, e_b2, e_gi, e_gr, e_pi, e_ald, e_ast, e_vr, e_cs1, e_cv3, e_hd, e_cv4, e_c10, e_c1i, e_c1r, e_sh0, e_sh1, e_sh2, e_sh3, e_sh4, e_tls, e_tln, e_tl0, e_tl1, cl_1, cl_41, cl_52, ln_52, cl_53, ln_53, tg_41_0, tg_41_3, tg_41_4, q_J_bitCount, q_Ex_bestRoof, q_Ex_had, Nat.reduceAdd, true_and, and_true, true_implies, not_true_eq_false, false_implies, not_false_eq_true, imp_self, forall_const, List.append_nil, ra_I, ra_J, ra_pad, true_or, or_true, Nat.reduceEqDiff, ra_bz, eq_self, if_true, if_false, false_and, and_false, Nat.zero_le, List.cons_append, List.nil_append, Nat.reduceLT, Nat.reduceLeDiff, Nat.reduceMul, Nat.reduceSub, n_0, n_1, n_2, n_3, n_4, n_5, n_6, n_7, n_8, n_9, n_10, n_12, n_40, n_48, n_57, n_59, n_72, n_99, n_102, n_103, n_107, n_108, n_192, n_255, n_256, n_999, n_1000, n_104, nI_add, pk_mul, n_cl, n_inT, n_le, n_lt, n_eq, n_m1, n_m1', n_lem1, n_m1le, n_ltm1, n_m1lt, n_lepred, n_shl, fa_or, hV.2.1.1]
      refine ⟨fun _ => ?_, fun q => by omega⟩
      have hS : rs_B a σ := by
        unfold rs_B an_be
        refine ⟨by rw [if_pos rfl]; exact e7, fun j hj => ?_⟩
        have m1 : ¬ nI j = -1 := by
          have : (nI j = -nI 1) = False := n_m1 (by omega)
          exact fun z => this ▸ z
        rw [if_neg m1, n_cl (by omega)]
        exact hB j (by omega)
      refine hZ σ (hI0.bst hfs (fun now hnow => ?_)) hS (hfs.hi (by decide))
      unfold rc_B
      rw [e10, hnow]
      exact rc_st.now hS
def sp_R_best (a : Ab) (b : Bb) (n : Nat) : ra_Sp := ra_f1 0 (fun x σ Z => rc_I a b n σ ∧ ∀ σ', rc_I a b n σ' → ra_up σ σ' → Z (some (.int (an_best a x))) σ')
theorem q_R_best {a : Ab} {b : Bb} {n : Nat} {oo : Nat} {x : Int32} {σ : ra_St} {Z : ra_R} : sp_R_best a b n [.ref oo, .int x] σ Z = (oo = 0 ∧ (rc_I a b n σ ∧ ∀ σ', rc_I a b n σ' → ra_up σ σ' → Z (some (.int (an_best a x))) σ')) := rfl
theorem k_R_best {l : Launch} {X : ra_X} {a : Ab} {b : Bb} {n : Nat} (hn : n < 1000000000) (hW : ab_W a) : ra_MOK l X mi_R_best (sp_R_best a b n) := by
  have h8 := ab_hc_8 a
  refine g_R_best (k_R_isNoHouse (a := a)) (k_Ex_bringBestUp (b := b) hn hW) (sp_R_best a b n) ?_
  intro as σ Z _ _ h
  obtain ⟨x, rfl, hI, hZ⟩ := x_f1 h
  by_cases hy : an_hs a x ∨ x = -1
  · rw [an_best_yes hy] at hZ
    have body : rc_I a b n σ ∧ ∀ σ' : ra_St, rc_I a b n σ' → rs_B a σ' → ra_up σ σ' → (x = -nI 1 → Z (some (.int (σ' 41 7))) σ') ∧ (¬ x = -nI 1 → vp_in x 8 ∧ Z (some (.int (σ' 52 x.toNatClampNeg))) σ') := by
      refine ⟨hI, fun σ1 g1 g2 g3 => ?_⟩
      have h9 := hZ σ1 g1 g3
      refine ⟨fun q => ?_, fun q => ?_⟩
      · rw [g2.1, show (-1 : Int32) = -nI 1 from rfl, ← q]
        exact h9
      · rcases hy with z | z
        · obtain ⟨m, hm, rfl⟩ := an_hs_of z
          rw [n_cl (by omega), g2.2 m hm]
          exact ⟨vi (by omega) (by decide), h9⟩
        · exact absurd z q
    simp (disch := omega) only [b_R_best_47, b_R_best_38, b_R_best_28, b_R_best_16, b_R_best_13, b_R_best_5, b_R_best_0, e_al0, e_il1, e_c, e_b1, e_b2, e_gi, e_gr, e_ald, e_ir, e_cv1, e_hd, e_cv2, e_c10, e_c1i, e_c1r, e_sh0, e_sh1, e_sh2, e_sh3, e_sh4, e_tls, e_tln, e_tl0, e_tl1, cl_0, cl_41, cl_52, ln_52, tg_0_4, tg_41_3, q_R_isNoHouse, q_Ex_bringBestUp, Nat.reduceAdd, true_and, and_true, true_implies, not_true_eq_false, false_implies, not_false_eq_true, imp_self, forall_const, List.append_nil, ra_I, ra_J, ra_pad, true_or, or_true, Nat.reduceEqDiff, ra_bz, eq_self, if_true, if_false, false_and, and_false, Nat.zero_le, List.cons_append, List.nil_append, Nat.reduceLT, Nat.reduceLeDiff, Nat.reduceMul, Nat.reduceSub, n_0, n_1, n_2, n_3, n_4, n_5, n_6, n_7, n_8, n_9, n_10, n_12, n_40, n_48, n_57, n_59, n_72, n_99, n_102, n_103, n_107, n_108, n_192, n_255, n_256, n_999, n_1000, n_104, nI_add, pk_mul, n_cl, n_inT, n_le, n_lt, n_eq, n_m1, n_m1', n_lem1, n_m1le, n_ltm1, n_m1lt, n_lepred, n_shl, fa_or]
    refine ⟨fun _ => body, fun q => ⟨hI.1, fun q3 => ?_, fun _ => body⟩⟩
    rcases hy with z | z
    · exact absurd z q3
    · exact absurd z q
  · rw [an_best_no hy] at hZ
    have h9 := hZ σ hI ra_up.rf
    simp (disch := omega) only [b_R_best_47, b_R_best_38, b_R_best_28, b_R_best_13, b_R_best_5, b_R_best_0, e_al0, e_il1, e_c, e_b1, e_b2, e_gi, e_gr, e_ald, e_ir, e_cv1, e_hd, e_cv2, e_c10, e_c1i, e_c1r, e_sh0, e_sh1, e_sh2, e_sh3, e_sh4, e_tls, e_tln, e_tl0, e_tl1, cl_0, cl_41, cl_52, ln_52, tg_0_4, tg_41_3, q_R_isNoHouse, q_Ex_bringBestUp, Nat.reduceAdd, true_and, and_true, true_implies, not_true_eq_false, false_implies, not_false_eq_true, imp_self, forall_const, List.append_nil, ra_I, ra_J, ra_pad, true_or, or_true, Nat.reduceEqDiff, ra_bz, eq_self, if_true, if_false, false_and, and_false, Nat.zero_le, List.cons_append, List.nil_append, Nat.reduceLT, Nat.reduceLeDiff, Nat.reduceMul, Nat.reduceSub, n_0, n_1, n_2, n_3, n_4, n_5, n_6, n_7, n_8, n_9, n_10, n_12, n_40, n_48, n_57, n_59, n_72, n_99, n_102, n_103, n_107, n_108, n_192, n_255, n_256, n_999, n_1000, n_104, nI_add, pk_mul, n_cl, n_inT, n_le, n_lt, n_eq, n_m1, n_m1', n_lem1, n_m1le, n_ltm1, n_m1lt, n_lepred, n_shl, fa_or]
    exact ⟨fun q => absurd (Or.inr q) hy, fun _ => ⟨hI.1, fun _ => h9, fun q => absurd (Or.inl (Classical.not_not.mp q)) hy⟩⟩
