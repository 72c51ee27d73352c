/-! the class: which tempers keep a ring dry -/
theorem n_shr2 {r : Nat} (hr : r < 2147483648) : nI r >>> (nI 2 &&& 31) = nI (r / 4) := pk_shrN hr _ 2 (s_l 2 (by decide))
theorem n_and3 (r : Nat) : nI r &&& nI 3 = nI (r % 4) := fa_mask r 2
def sp_Mo_keepsDry (a : Ab) (g : Nat) (most : Nat) : ra_Sp := ra_f1 28 (fun x σ Z => rc_V a σ ∧ rc_who 29 a (ab_ring a g) σ ∧ (∀ h t, h < ab_hc a → (ab_ring a g).testBit h = true → t < 4 → mt a (ab_ring a g) most h t σ) ∧ ∃ code : Nat, x = nI code ∧ code < 1024 ∧ ∀ σ', ra_fs [31] [] σ σ' → ra_bz (dr_ok a (ab_ring a g) most code = true) Z σ')
theorem q_Mo_keepsDry {a : Ab} {g : Nat} {most : Nat} {oo : Nat} {x : Int32} {σ : ra_St} {Z : ra_R} : sp_Mo_keepsDry a g most [.ref oo, .int x] σ Z = (oo = 28 ∧ (rc_V a σ ∧ rc_who 29 a (ab_ring a g) σ ∧ (∀ h t, h < ab_hc a → (ab_ring a g).testBit h = true → t < 4 → mt a (ab_ring a g) most h t σ) ∧ ∃ code : Nat, x = nI code ∧ code < 1024 ∧ ∀ σ', ra_fs [31] [] σ σ' → ra_bz (dr_ok a (ab_ring a g) most code = true) Z σ')) := rfl
def I_Mo_keepsDry (a : Ab) (g most : Nat) (Z : ra_R) (as : List Value) (σ0 : ra_St) (t : Nat) (μ : ra_M) : ra_K := fun L S σ => S = [] ∧ ∃ (code i x j : Nat) (w : Int32) (u v : Value), as = [.ref 28, .int (nI code)] ∧ code < 1024 ∧ ra_fs [31] [] σ0 σ ∧ i ≤ cw (ab_ring a g) (ab_hc a) ∧ (∀ σ', ra_fs [31] [] σ0 σ' → ra_bz (dr_ok a (ab_ring a g) most code = true) Z σ') ∧
  match t with
  | 12 => (∀ p, p < ab_hc a → (ab_ring a g).testBit p = true → i ≤ cw (ab_ring a g) p → σ 31 p = nI (dr_te a (ab_ring a g) code p)) ∧ μ = (30 + i, 0, 0) ∧ L = [.ref 28, .int (nI code), .int (nI (code / 4 ^ (cw (ab_ring a g) (ab_hc a) - i))), .int (nI i - nI 1), u, v]
  | 48 => (∀ p, p < ab_hc a → (ab_ring a g).testBit p = true → σ 31 p = nI (dr_te a (ab_ring a g) code p)) ∧ (∀ p, p < ab_hc a → (ab_ring a g).testBit p = true → cw (ab_ring a g) p < i → (sm a (dr_te a (ab_ring a g) code) (a 3 0)).2.2.1 p ≤ most) ∧ μ = (20 - i, 1, 0) ∧ L = [.ref 28, .int (nI code), .int w, .int (nI i), u, v]
  | _ => (∀ p, p < ab_hc a → (ab_ring a g).testBit p = true → σ 31 p = nI (dr_te a (ab_ring a g) code p)) ∧ (∀ p, p < ab_hc a → (ab_ring a g).testBit p = true → cw (ab_ring a g) p < i → (sm a (dr_te a (ab_ring a g) code) (a 3 0)).2.2.1 p ≤ most) ∧ x < ab_hc a ∧ (ab_ring a g).testBit x = true ∧ cw (ab_ring a g) x = i ∧ j < cw (ab_ring a g) (ab_hc a) ∧ (∀ p, p < j → dr_te a (ab_ring a g) code (up a x (p + 1)) = 1) ∧ μ = (20 - i, 0, 20 - j) ∧ L = [.ref 28, .int (nI code), .int w, .int (nI i), .int (nI (up a x (j + 1))), .int (nI (j + 1))]
theorem k_Mo_keepsDry {l : Launch} {X : ra_X} {a : Ab} {g most : Nat} (hW : ab_W a) (hg : g < ab_hc a) : ra_MOK l X mi_Mo_keepsDry (sp_Mo_keepsDry a g most) := by
  have h8 := ab_hc_8 a
  have hc := cw_le (ab_ring a g) (ab_hc a)
  have hr12 := hW.2.2.2.2.1
  have hcl := rc_cl_ring hg
  have hnp := cw_ring hg
  refine g_Mo_keepsDry k_R_has (sp_Mo_keepsDry a g most) (I_Mo_keepsDry a g most) ?_ ?_ ?_ ?_
  · intro as σ Z _ _ h0
    obtain ⟨_, rfl, hV, hw, hT, code, rfl, hcode, hZ⟩ := x_f1 h0
    simp (disch := omega) only [b_Mo_keepsDry_168, b_Mo_keepsDry_162, b_Mo_keepsDry_160, b_Mo_keepsDry_125, b_Mo_keepsDry_107, b_Mo_keepsDry_93, b_Mo_keepsDry_81, b_Mo_keepsDry_59, b_Mo_keepsDry_48, b_Mo_keepsDry_46, b_Mo_keepsDry_16, b_Mo_keepsDry_12, b_Mo_keepsDry_0, e_al0, e_il4, e_il3, e_il5, e_il2, e_il1, e_is4i, e_is4r, e_is4n, e_is5i, e_is5r, e_is5n, e_is3i, e_is3r, e_is3n, e_is2i, e_is2r, e_is2n, e_inc3i, e_inc3r, e_inc3n, e_inc5i, e_inc5r, e_inc5n, e_c, e_i2, e_b1, e_b2, e_gi, e_gr, e_ald, e_ast, e_zr, e_cs2, e_c10, e_c1i, e_c1r, e_sh0, e_sh1, e_sh2, e_sh3, e_sh4, e_tls, e_tln, e_tl0, e_tl1, cl_1, cl_10, ln_10, cl_28, cl_29, cl_30, ln_30, cl_31, ln_31, cl_40, ln_40, tg_1_6, tg_28_0, tg_28_2, tg_28_6, tg_29_2, tg_29_3, q_R_has, Nat.reduceAdd, true_and, and_true, true_implies, not_true_eq_false, false_implies, not_false_eq_true, imp_self, forall_const, List.append_nil, ra_I, ra_J, ra_pad, true_or, or_true, Nat.reduceEqDiff, ra_bz, eq_self, if_true, if_false, false_and, and_false, Nat.zero_le, List.cons_append, List.nil_append, Nat.reduceLT, Nat.reduceLeDiff, Nat.reduceMul, Nat.reduceSub, n_0, n_1, n_2, n_3, n_4, n_5, n_6, n_7, n_8, n_9, n_10, n_12, n_40, n_48, n_57, n_59, n_72, n_99, n_102, n_103, n_107, n_108, n_192, n_255, n_256, n_999, n_1000, n_104, nI_add, pk_mul, n_cl, n_inT, n_le, n_lt, n_eq, n_m1, n_m1', n_lem1, n_m1le, n_ltm1, n_m1lt, n_lepred, n_shl, fa_or, hw.1]
    refine ⟨(30 + cw (ab_ring a g) (ab_hc a), 0, 0), rfl, code, cw (ab_ring a g) (ab_hc a), 0, 0, 0, .null, .null, rfl, hcode, ra_fs.rf, by omega, hZ, fun p hp hpb hpi => ?_, rfl, ?_⟩
    · have := cw_lt hp hpb
      omega
    · rw [Nat.sub_self, Nat.pow_zero, Nat.div_one]
  · -- 12
    intro as σ0 Z h0 μ L S σ hI
    obtain ⟨rfl, code, i, x, j, w, u, v, rfl, hcode, hf, hi, hZ, hq, rfl, rfl⟩ := hI
    obtain ⟨_, e, hV0, hw0, hT0, code', e2, -, -⟩ := x_f1 h0
    cases e
    have hw := hw0.fs hf (by decide)
    cases i with
    | zero =>
      simp (disch := omega) only [b_Mo_keepsDry_168, b_Mo_keepsDry_162, b_Mo_keepsDry_160, b_Mo_keepsDry_125, b_Mo_keepsDry_107, b_Mo_keepsDry_93, b_Mo_keepsDry_81, b_Mo_keepsDry_59, b_Mo_keepsDry_48, b_Mo_keepsDry_46, b_Mo_keepsDry_16, b_Mo_keepsDry_12, b_Mo_keepsDry_0, e_al0, e_il4, e_il3, e_il5, e_il2, e_il1, e_is4i, e_is4r, e_is4n, e_is5i, e_is5r, e_is5n, e_is3i, e_is3r, e_is3n, e_is2i, e_is2r, e_is2n, e_inc3i, e_inc3r, e_inc3n, e_inc5i, e_inc5r, e_inc5n, e_c, e_i2, e_b1, e_b2, e_gi, e_gr, e_ald, e_ast, e_zr, e_cs2, e_c10, e_c1i, e_c1r, e_sh0, e_sh1, e_sh2, e_sh3, e_sh4, e_tls, e_tln, e_tl0, e_tl1, cl_1, cl_10, ln_10, cl_28, cl_29, cl_30, ln_30, cl_31, ln_31, cl_40, ln_40, tg_1_6, tg_28_0, tg_28_2, tg_28_6, tg_29_2, tg_29_3, q_R_has, Nat.reduceAdd, true_and, and_true, true_implies, not_true_eq_false, false_implies, not_false_eq_true, imp_self, forall_const, List.append_nil, ra_I, ra_J, ra_pad, true_or, or_true, Nat.reduceEqDiff, ra_bz, eq_self, if_true, if_false, false_and, and_false, Nat.zero_le, List.cons_append, List.nil_append, Nat.reduceLT, Nat.reduceLeDiff, Nat.reduceMul, Nat.reduceSub, n_0, n_1, n_2, n_3, n_4, n_5, n_6, n_7, n_8, n_9, n_10, n_12, n_40, n_48, n_57, n_59, n_72, n_99, n_102, n_103, n_107, n_108, n_192, n_255, n_256, n_999, n_1000, n_104, nI_add, pk_mul, n_cl, n_inT, n_le, n_lt, n_eq, n_m1, n_m1', n_lem1, n_m1le, n_ltm1, n_m1lt, n_lepred, n_shl, fa_or, n_predlt]
      exact ⟨(20 - 0, 1, 0), lx1 (by omega), rfl, code, 0, 0, 0, _, _, _, rfl, hcode, hf, by omega, hZ, fun p hp hpb => hq p hp hpb (by omega), fun p hp hpb hpi => by omega, rfl, rfl⟩
    | succ i =>
      obtain ⟨p, hp, hpb, hpi, hwp⟩ := hw.at (show i < cw (ab_ring a g) (ab_hc a) by omega)
      have hwp : σ 30 i = nI p := hwp
      rw [show nI (i + 1) - nI 1 = nI i by rw [n_sub (by omega)]; rfl]
      have hle : code / 4 ^ (cw (ab_ring a g) (ab_hc a) - (i + 1)) ≤ code := Nat.div_le_self _ _
      simp (disch := omega) only [b_Mo_keepsDry_168, b_Mo_keepsDry_162, b_Mo_keepsDry_160, b_Mo_keepsDry_125, b_Mo_keepsDry_107, b_Mo_keepsDry_93, b_Mo_keepsDry_81, b_Mo_keepsDry_59, b_Mo_keepsDry_48, b_Mo_keepsDry_46, b_Mo_keepsDry_16, b_Mo_keepsDry_12, b_Mo_keepsDry_0, e_al0, e_il4, e_il3, e_il5, e_il2, e_il1, e_is4i, e_is4r, e_is4n, e_is5i, e_is5r, e_is5n, e_is3i, e_is3r, e_is3n, e_is2i, e_is2r, e_is2n, e_inc3i, e_inc3r, e_inc3n, e_inc5i, e_inc5r, e_inc5n, e_c, e_i2, e_b1, e_b2, e_gi, e_gr, e_ald, e_ast, e_zr, e_cs2, e_c10, e_c1i, e_c1r, e_sh0, e_sh1, e_sh2, e_sh3, e_sh4, e_tls, e_tln, e_tl0, e_tl1, cl_1, cl_10, ln_10, cl_28, cl_29, cl_30, ln_30, cl_31, ln_31, cl_40, ln_40, tg_1_6, tg_28_0, tg_28_2, tg_28_6, tg_29_2, tg_29_3, q_R_has, Nat.reduceAdd, true_and, and_true, true_implies, not_true_eq_false, false_implies, not_false_eq_true, imp_self, forall_const, List.append_nil, ra_I, ra_J, ra_pad, true_or, or_true, Nat.reduceEqDiff, ra_bz, eq_self, if_true, if_false, false_and, and_false, Nat.zero_le, List.cons_append, List.nil_append, Nat.reduceLT, Nat.reduceLeDiff, Nat.reduceMul, Nat.reduceSub, n_0, n_1, n_2, n_3, n_4, n_5, n_6, n_7, n_8, n_9, n_10, n_12, n_40, n_48, n_57, n_59, n_72, n_99, n_102, n_103, n_107, n_108, n_192, n_255, n_256, n_999, n_1000, n_104, nI_add, pk_mul, n_cl, n_inT, n_le, n_lt, n_eq, n_m1, n_m1', n_lem1, n_m1le, n_ltm1, n_m1lt, n_lepred, n_shl, fa_or, hwp, n_and3, n_shr2]
      refine ⟨fun z => by omega, fun _ => ⟨(30 + i, 0, 0), lx1 (by omega), rfl, code, i, x, j, 0, u, v, rfl, hcode, hf.sw (Or.inl (by decide)), by omega, hZ, fun r hr hrb hri => ?_, rfl, ?_⟩⟩
      · rw [sw_at, if_pos rfl]
        by_cases e : r = p
        · rw [if_pos e, e, dr_te_cw hpb, hpi]
        · rw [if_neg e]
          have e3 : ¬ cw (ab_ring a g) r = i := fun z => e (cw_inj hrb hpb (z.trans hpi.symm))
          exact hq r hr hrb (by omega)
      · rw [Nat.div_div_eq_div_mul, ← Nat.pow_succ, show (cw (ab_ring a g) (ab_hc a) - (i + 1)).succ = cw (ab_ring a g) (ab_hc a) - i by omega, Int32.sub_eq_add_neg]
  · -- 48
    intro as σ0 Z h0 μ L S σ hI
    obtain ⟨rfl, code, i, x, j, w, u, v, rfl, hcode, hf, hi, hZ, hq, hd, rfl, rfl⟩ := hI
    obtain ⟨_, e, hV0, hw0, hT0, code', e2, -, -⟩ := x_f1 h0
    cases e
    have hw := hw0.fs hf (by decide)
    have hV := hV0.fs hf (by decide)
    by_cases hlt : i < cw (ab_ring a g) (ab_hc a)
    · obtain ⟨p, hp, hpb, hpi, hwp⟩ := hw.at hlt
      have hwp : σ 30 i = nI p := hwp
      have g1 := (hV.2.2.2.2 p hp).2.1
      simp (disch := omega) only [b_Mo_keepsDry_162, b_Mo_keepsDry_160, b_Mo_keepsDry_125, b_Mo_keepsDry_107, b_Mo_keepsDry_93, b_Mo_keepsDry_81, b_Mo_keepsDry_59, b_Mo_keepsDry_48, b_Mo_keepsDry_46, b_Mo_keepsDry_16, b_Mo_keepsDry_12, b_Mo_keepsDry_0, e_al0, e_il4, e_il3, e_il5, e_il2, e_il1, e_is4i, e_is4r, e_is4n, e_is5i, e_is5r, e_is5n, e_is3i, e_is3r, e_is3n, e_is2i, e_is2r, e_is2n, e_inc3i, e_inc3r, e_inc3n, e_inc5i, e_inc5r, e_inc5n, e_c, e_i2, e_b1, e_b2, e_gi, e_gr, e_ald, e_ast, e_zr, e_cs2, e_c10, e_c1i, e_c1r, e_sh0, e_sh1, e_sh2, e_sh3, e_sh4, e_tls, e_tln, e_tl0, e_tl1, cl_1, cl_10, ln_10, cl_28, cl_29, cl_30, ln_30, cl_31, ln_31, cl_40, ln_40, tg_1_6, tg_28_0, tg_28_2, tg_28_6, tg_29_2, tg_29_3, q_R_has, Nat.reduceAdd, true_and, and_true, true_implies, not_true_eq_false, false_implies, not_false_eq_true, imp_self, forall_const, List.append_nil, ra_I, ra_J, ra_pad, true_or, or_true, Nat.reduceEqDiff, ra_bz, eq_self, if_true, if_false, false_and, and_false, Nat.zero_le, List.cons_append, List.nil_append, Nat.reduceLT, Nat.reduceLeDiff, Nat.reduceMul, Nat.reduceSub, n_0, n_1, n_2, n_3, n_4, n_5, n_6, n_7, n_8, n_9, n_10, n_12, n_40, n_48, n_57, n_59, n_72, n_99, n_102, n_103, n_107, n_108, n_192, n_255, n_256, n_999, n_1000, n_104, nI_add, pk_mul, n_cl, n_inT, n_le, n_lt, n_eq, n_m1, n_m1', n_lem1, n_m1le, n_ltm1, n_m1lt, n_lepred, n_shl, fa_or, hw.1, hwp, g1]
      exact ⟨fun z => by omega, fun _ => ⟨(20 - i, 0, 20 - 0), lx2 (by omega), rfl, code, i, p, 0, w, u, v, rfl, hcode, hf, hi, hZ, hq, hd, hp, hpb, hpi, by omega, fun r hr => by omega, rfl, rfl⟩⟩
    · simp (disch := omega) only [b_Mo_keepsDry_168, b_Mo_keepsDry_162, b_Mo_keepsDry_160, b_Mo_keepsDry_125, b_Mo_keepsDry_107, b_Mo_keepsDry_93, b_Mo_keepsDry_81, b_Mo_keepsDry_48, b_Mo_keepsDry_46, b_Mo_keepsDry_16, b_Mo_keepsDry_12, b_Mo_keepsDry_0, e_al0, e_il4, e_il3, e_il5, e_il2, e_il1, e_is4i, e_is4r, e_is4n, e_is5i, e_is5r, e_is5n, e_is3i, e_is3r, e_is3n, e_is2i, e_is2r, e_is2n, e_inc3i, e_inc3r, e_inc3n, e_inc5i, e_inc5r, e_inc5n, e_c, e_i2, e_b1, e_b2, e_gi, e_gr, e_ald, e_ast, e_zr, e_cs2, e_c10, e_c1i, e_c1r, e_sh0, e_sh1, e_sh2, e_sh3, e_sh4, e_tls, e_tln, e_tl0, e_tl1, cl_1, cl_10, ln_10, cl_28, cl_29, cl_30, ln_30, cl_31, ln_31, cl_40, ln_40, tg_1_6, tg_28_0, tg_28_2, tg_28_6, tg_29_2, tg_29_3, q_R_has, Nat.reduceAdd, true_and, and_true, true_implies, not_true_eq_false, false_implies, not_false_eq_true, imp_self, forall_const, List.append_nil, ra_I, ra_J, ra_pad, true_or, or_true, Nat.reduceEqDiff, ra_bz, eq_self, if_true, if_false, false_and, and_false, Nat.zero_le, List.cons_append, List.nil_append, Nat.reduceLT, Nat.reduceLeDiff, Nat.reduceMul, Nat.reduceSub, n_0, n_1, n_2, n_3, n_4, n_5, n_6, n_7, n_8, n_9, n_10, n_12, n_40, n_48, n_57, n_59, n_72, n_99, n_102, n_103, n_107, n_108, n_192, n_255, n_256, n_999, n_1000, n_104, nI_add, pk_mul, n_cl, n_inT, n_le, n_lt, n_eq, n_m1, n_m1', n_lem1, n_m1le, n_ltm1, n_m1lt, n_lepred, n_shl, fa_or, hw.1]
      refine ⟨fun _ => (hZ σ hf).1 (dr_ok_iff.mpr (fun p hp hpb => hd p hp hpb ?_)), fun z => by omega⟩
      have := cw_lt hp hpb
      omega
  · -- 81
    intro as σ0 Z h0 μ L S σ hI
    obtain ⟨rfl, code, i, x, j, w, u, v, rfl, hcode, hf, hi, hZ, hq, hd, hx, hxb, hxi, hj, hch, rfl, rfl⟩ := hI
    obtain ⟨_, e, hV0, hw0, hT0, code', e2, -, -⟩ := x_f1 h0
    cases e
    have hw := hw0.fs hf (by decide)
    have hV := hV0.fs hf (by decide)
    have hul := up_lt hx (j + 1)
    have hxl := cw_lt hx hxb
    have hub := up_in hcl hx hxb (j + 1)
    have hwx : σ 30 i = nI x := by
      have := hw.2 x hx hxb
      rw [hxi] at this
      exact this
    have ht3 := dr_te_3 (a := a) (b := ab_ring a g) (code := code) hul
    have et := hq _ hul hub
    obtain ⟨D, hD, eD, hDx⟩ := hT0 _ _ hul hub (show dr_te a (ab_ring a g) code (up a x (j + 1)) < 4 by omega)
    have eD2 : σ 40 (up a x (j + 1) * 4 + dr_te a (ab_ring a g) code (up a x (j + 1))) = nI D := by
      rw [hf 40 _ (by decide) (by simp)]
      exact eD
    have h125 : (j + 1 = cw (ab_ring a g) (ab_hc a) ∨ dr_te a (ab_ring a g) code (up a x (j + 1)) ≠ 1) → b_Mo_keepsDry_125 sp_R_has (ra_J (I_Mo_keepsDry a g most Z [.ref 28, .int (nI code)] σ0) (20 - i, 0, 20 - j)) Z [.ref 28, .int (nI code), .int w, .int (nI i), .int (nI (up a x (j + 1))), .int (nI (j + 1))] [] σ := by
      intro hend
      have hfate := mg_fate (te := dr_te a (ab_ring a g) code) hg hx hxb (by omega) hch (by rw [← hnp]; exact hend) (a 3 0)
      have hbit := hDx x hx hxb
      rw [← hfate] at hbit
      simp (disch := omega) only [b_Mo_keepsDry_168, b_Mo_keepsDry_162, b_Mo_keepsDry_160, b_Mo_keepsDry_125, b_Mo_keepsDry_107, b_Mo_keepsDry_93, b_Mo_keepsDry_81, b_Mo_keepsDry_59, b_Mo_keepsDry_48, b_Mo_keepsDry_46, b_Mo_keepsDry_16, b_Mo_keepsDry_12, b_Mo_keepsDry_0, e_al0, e_il4, e_il3, e_il5, e_il2, e_il1, e_is4i, e_is4r, e_is4n, e_is5i, e_is5r, e_is5n, e_is3i, e_is3r, e_is3n, e_is2i, e_is2r, e_is2n, e_inc3i, e_inc3r, e_inc3n, e_inc5i, e_inc5r, e_inc5n, e_c, e_i2, e_b1, e_b2, e_gi, e_gr, e_ald, e_ast, e_zr, e_cs2, e_c10, e_c1i, e_c1r, e_sh0, e_sh1, e_sh2, e_sh3, e_sh4, e_tls, e_tln, e_tl0, e_tl1, cl_1, cl_10, ln_10, cl_28, cl_29, cl_30, ln_30, cl_31, ln_31, cl_40, ln_40, tg_1_6, tg_28_0, tg_28_2, tg_28_6, tg_29_2, tg_29_3, q_R_has, Nat.reduceAdd, true_and, and_true, true_implies, not_true_eq_false, false_implies, not_false_eq_true, imp_self, forall_const, List.append_nil, ra_I, ra_J, ra_pad, true_or, or_true, Nat.reduceEqDiff, ra_bz, eq_self, if_true, if_false, false_and, and_false, Nat.zero_le, List.cons_append, List.nil_append, Nat.reduceLT, Nat.reduceLeDiff, Nat.reduceMul, Nat.reduceSub, n_0, n_1, n_2, n_3, n_4, n_5, n_6, n_7, n_8, n_9, n_10, n_12, n_40, n_48, n_57, n_59, n_72, n_99, n_102, n_103, n_107, n_108, n_192, n_255, n_256, n_999, n_1000, n_104, nI_add, pk_mul, n_cl, n_inT, n_le, n_lt, n_eq, n_m1, n_m1', n_lem1, n_m1le, n_ltm1, n_m1lt, n_lepred, n_shl, fa_or, et, eD2, hwx]
      refine ⟨fun z => ?_, fun z => ?_⟩
      · refine ⟨(20 - (i + 1), 1, 0), lx1 (by omega), rfl, code, i + 1, 0, 0, w, _, _, rfl, hcode, hf, by omega, hZ, hq, fun p hp hpb hpi => ?_, rfl, rfl⟩
        rcases (show cw (ab_ring a g) p < i ∨ cw (ab_ring a g) p = i by omega) with y | y
        · exact hd p hp hpb y
        · rw [cw_inj hpb hxb (y.trans hxi.symm)]
          exact hbit.mp z
      · exact (hZ σ hf).2 (fun y => z (hbit.mpr (dr_ok_iff.mp y x hx hxb)))
    have g1 := (hV.2.2.2.2 _ hul).2.1
    by_cases hlt : j + 1 < cw (ab_ring a g) (ab_hc a)
    · simp (disch := omega) only [b_Mo_keepsDry_168, b_Mo_keepsDry_162, b_Mo_keepsDry_160, b_Mo_keepsDry_107, b_Mo_keepsDry_93, b_Mo_keepsDry_81, b_Mo_keepsDry_59, b_Mo_keepsDry_48, b_Mo_keepsDry_46, b_Mo_keepsDry_16, b_Mo_keepsDry_12, b_Mo_keepsDry_0, e_al0, e_il4, e_il3, e_il5, e_il2, e_il1, e_is4i, e_is4r, e_is4n, e_is5i, e_is5r, e_is5n, e_is3i, e_is3r, e_is3n, e_is2i, e_is2r, e_is2n, e_inc3i, e_inc3r, e_inc3n, e_inc5i, e_inc5r, e_inc5n, e_c, e_i2, e_b1, e_b2, e_gi, e_gr, e_ald, e_ast, e_zr, e_cs2, e_c10, e_c1i, e_c1r, e_sh0, e_sh1, e_sh2, e_sh3, e_sh4, e_tls, e_tln, e_tl0, e_tl1, cl_1, cl_10, ln_10, cl_28, cl_29, cl_30, ln_30, cl_31, ln_31, cl_40, ln_40, tg_1_6, tg_28_0, tg_28_2, tg_28_6, tg_29_2, tg_29_3, q_R_has, Nat.reduceAdd, true_and, and_true, true_implies, not_true_eq_false, false_implies, not_false_eq_true, imp_self, forall_const, List.append_nil, ra_I, ra_J, ra_pad, true_or, or_true, Nat.reduceEqDiff, ra_bz, eq_self, if_true, if_false, false_and, and_false, Nat.zero_le, List.cons_append, List.nil_append, Nat.reduceLT, Nat.reduceLeDiff, Nat.reduceMul, Nat.reduceSub, n_0, n_1, n_2, n_3, n_4, n_5, n_6, n_7, n_8, n_9, n_10, n_12, n_40, n_48, n_57, n_59, n_72, n_99, n_102, n_103, n_107, n_108, n_192, n_255, n_256, n_999, n_1000, n_104, nI_add, pk_mul, n_cl, n_inT, n_le, n_lt, n_eq, n_m1, n_m1', n_lem1, n_m1le, n_ltm1, n_m1lt, n_lepred, n_shl, fa_or, hw.1, et, g1]
      refine ⟨fun z => by omega, fun _ => ⟨fun z => ⟨(20 - i, 0, 20 - (j + 1)), lx3 (by omega), rfl, code, i, x, j + 1, w, u, v, rfl, hcode, hf, hi, hZ, hq, hd, hx, hxb, hxi, hlt, fun p hp => ?_, rfl, rfl⟩, fun z => h125 (Or.inr z)⟩⟩
      rcases (show p < j ∨ p = j by omega) with y | rfl
      · exact hch p y
      · exact z
    · simp (disch := omega) only [b_Mo_keepsDry_168, b_Mo_keepsDry_162, b_Mo_keepsDry_160, b_Mo_keepsDry_107, b_Mo_keepsDry_81, b_Mo_keepsDry_59, b_Mo_keepsDry_48, b_Mo_keepsDry_46, b_Mo_keepsDry_16, b_Mo_keepsDry_12, b_Mo_keepsDry_0, e_al0, e_il4, e_il3, e_il5, e_il2, e_il1, e_is4i, e_is4r, e_is4n, e_is5i, e_is5r, e_is5n, e_is3i, e_is3r, e_is3n, e_is2i, e_is2r, e_is2n, e_inc3i, e_inc3r, e_inc3n, e_inc5i, e_inc5r, e_inc5n, e_c, e_i2, e_b1, e_b2, e_gi, e_gr, e_ald, e_ast, e_zr, e_cs2, e_c10, e_c1i, e_c1r, e_sh0, e_sh1, e_sh2, e_sh3, e_sh4, e_tls, e_tln, e_tl0, e_tl1, cl_1, cl_10, ln_10, cl_28, cl_29, cl_30, ln_30, cl_31, ln_31, cl_40, ln_40, tg_1_6, tg_28_0, tg_28_2, tg_28_6, tg_29_2, tg_29_3, q_R_has, Nat.reduceAdd, true_and, and_true, true_implies, not_true_eq_false, false_implies, not_false_eq_true, imp_self, forall_const, List.append_nil, ra_I, ra_J, ra_pad, true_or, or_true, Nat.reduceEqDiff, ra_bz, eq_self, if_true, if_false, false_and, and_false, Nat.zero_le, List.cons_append, List.nil_append, Nat.reduceLT, Nat.reduceLeDiff, Nat.reduceMul, Nat.reduceSub, n_0, n_1, n_2, n_3, n_4, n_5, n_6, n_7, n_8, n_9, n_10, n_12, n_40, n_48, n_57, n_59, n_72, n_99, n_102, n_103, n_107, n_108, n_192, n_255, n_256, n_999, n_1000, n_104, nI_add, pk_mul, n_cl, n_inT, n_le, n_lt, n_eq, n_m1, n_m1', n_lem1, n_m1le, n_ltm1, n_m1lt, n_lepred, n_shl, fa_or, hw.1]
      exact ⟨fun _ => h125 (Or.inl (by omega)), fun z => by omega⟩
