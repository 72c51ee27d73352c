def sp_Ex_changeFirstPair (a : Ab) : ra_Sp := ra_f0 41 (fun σ Z => rc_V a σ ∧ rc_X a σ ∧ ∃ f : Nat → Nat, (∀ h, h < ab_hc a → σ 51 h = nI (f h) ∧ f h < 8) ∧ (fa_first (mk_p a f) 64 = 64 → Z (some (.int 0)) σ) ∧ ∀ p q, p < q → q < ab_hc a → fa_first (mk_p a f) 64 = 8 * p + q → mk_want a f p q → Z (some (.int 1)) (ra_sw (ra_sw σ 51 p (nI (f q))) 51 q (nI (f p))))
theorem q_Ex_changeFirstPair {a : Ab} {oo : Nat} {σ : ra_St} {Z : ra_R} : sp_Ex_changeFirstPair a [.ref oo] σ Z = (oo = 41 ∧ (rc_V a σ ∧ rc_X a σ ∧ ∃ f : Nat → Nat, (∀ h, h < ab_hc a → σ 51 h = nI (f h) ∧ f h < 8) ∧ (fa_first (mk_p a f) 64 = 64 → Z (some (.int 0)) σ) ∧ ∀ p q, p < q → q < ab_hc a → fa_first (mk_p a f) 64 = 8 * p + q → mk_want a f p q → Z (some (.int 1)) (ra_sw (ra_sw σ 51 p (nI (f q))) 51 q (nI (f p))))) := rfl
def I_Ex_changeFirstPair (a : Ab) (Z : ra_R) (as : List Value) (σ0 : ra_St) (t : Nat) (μ : ra_M) : ra_K := fun L S σ => S = [] ∧ σ = σ0 ∧ as = [.ref 41] ∧ ∃ (f : Nat → Nat) (p q : Nat) (u v : Value), (∀ h, h < ab_hc a → σ 51 h = nI (f h) ∧ f h < 8) ∧ (fa_first (mk_p a f) 64 = 64 → Z (some (.int 0)) σ) ∧ (∀ p q, p < q → q < ab_hc a → fa_first (mk_p a f) 64 = 8 * p + q → mk_want a f p q → Z (some (.int 1)) (ra_sw (ra_sw σ 51 p (nI (f q))) 51 q (nI (f p)))) ∧ p ≤ ab_hc a ∧
  match t with
  | 2 => (∀ j, j < 8 * p → mk_p a f j = false) ∧ μ = (ab_hc a - p, 1, 0) ∧ L = [.ref 41, .int (nI p), u, v]
  | _ => p < q ∧ p < ab_hc a ∧ q ≤ ab_hc a ∧ (∀ j, j < 8 * p + q → mk_p a f j = false) ∧ μ = (ab_hc a - p, 0, ab_hc a - q) ∧ L = [.ref 41, .int (nI p), .int (nI q), v]
theorem k_Ex_changeFirstPair {l : Launch} {X : ra_X} {a : Ab} (hW : ab_W a) : ra_MOK l X mi_Ex_changeFirstPair (sp_Ex_changeFirstPair a) := by
  have h8 := ab_hc_8 a
  refine g_Ex_changeFirstPair (k_Ex_wouldChange hW) (sp_Ex_changeFirstPair a) (I_Ex_changeFirstPair a) ?_ ?_ ?_
  · intro as σ Z _ _ h
    obtain ⟨rfl, hV, hX, f, hf, z1, z2⟩ := x_f0 h
    simp (disch := omega) only [b_Ex_changeFirstPair_81, b_Ex_changeFirstPair_75, b_Ex_changeFirstPair_69, b_Ex_changeFirstPair_41, b_Ex_changeFirstPair_28, b_Ex_changeFirstPair_17, b_Ex_changeFirstPair_13, b_Ex_changeFirstPair_2, b_Ex_changeFirstPair_0, e_al0, e_il1, e_il2, e_il3, e_is3i, e_is3r, e_is3n, e_is2i, e_is2r, e_is2n, e_is1i, e_is1r, e_is1n, e_inc1i, e_inc1r, e_inc1n, e_inc2i, e_inc2r, e_inc2n, e_c, e_i2, e_b1, e_b2, e_gi, e_gr, e_ald, e_ast, e_zr, e_cv4, e_hd, e_c10, e_c1i, e_c1r, e_sh0, e_sh1, e_sh2, e_sh3, e_sh4, e_tls, e_tln, e_tl0, e_tl1, cl_1, cl_41, cl_51, ln_51, tg_41_0, tg_41_2, Nat.reduceAdd, true_and, and_true, true_implies, not_true_eq_false, false_implies, not_false_eq_true, imp_self, forall_const, List.append_nil, ra_I, ra_J, ra_pad, true_or, or_true, Nat.reduceEqDiff, ra_bz, eq_self, if_true, if_false, false_and, and_false, Nat.zero_le, List.cons_append, List.nil_append, Nat.reduceLT, Nat.reduceLeDiff, Nat.reduceMul, Nat.reduceSub, n_0, n_1, n_2, n_3, n_4, n_5, n_6, n_7, n_8, n_9, n_10, n_12, n_40, n_48, n_57, n_59, n_72, n_99, n_102, n_103, n_107, n_108, n_192, n_255, n_256, n_999, n_1000, n_104, nI_add, pk_mul, n_cl, n_inT, n_le, n_lt, n_eq, n_m1, n_m1', n_lem1, n_m1le, n_ltm1, n_m1lt, n_lepred, n_shl, fa_or]
    exact ⟨_, rfl, rfl, rfl, f, 0, 0, _, _, hf, z1, z2, by omega, fun j hj => by omega, rfl, rfl⟩
  · intro as σ0 Z h0 μ L S σ hI
    obtain ⟨rfl, rfl, rfl, f, p, q, u, v, hf, z1, z2, hp, hg, rfl, rfl⟩ := hI
    obtain ⟨-, hV, hX, -⟩ := x_f0 h0
    simp (disch := omega) only [b_Ex_changeFirstPair_81, b_Ex_changeFirstPair_75, b_Ex_changeFirstPair_69, b_Ex_changeFirstPair_41, b_Ex_changeFirstPair_28, b_Ex_changeFirstPair_17, b_Ex_changeFirstPair_13, b_Ex_changeFirstPair_2, b_Ex_changeFirstPair_0, e_al0, e_il1, e_il2, e_il3, e_is3i, e_is3r, e_is3n, e_is2i, e_is2r, e_is2n, e_is1i, e_is1r, e_is1n, e_inc1i, e_inc1r, e_inc1n, e_inc2i, e_inc2r, e_inc2n, e_c, e_i2, e_b1, e_b2, e_gi, e_gr, e_ald, e_ast, e_zr, e_cv4, e_hd, e_c10, e_c1i, e_c1r, e_sh0, e_sh1, e_sh2, e_sh3, e_sh4, e_tls, e_tln, e_tl0, e_tl1, cl_1, cl_41, cl_51, ln_51, tg_41_0, tg_41_2, Nat.reduceAdd, true_and, and_true, true_implies, not_true_eq_false, false_implies, not_false_eq_true, imp_self, forall_const, List.append_nil, ra_I, ra_J, ra_pad, true_or, or_true, Nat.reduceEqDiff, ra_bz, eq_self, if_true, if_false, false_and, and_false, Nat.zero_le, List.cons_append, List.nil_append, Nat.reduceLT, Nat.reduceLeDiff, Nat.reduceMul, Nat.reduceSub, n_0, n_1, n_2, n_3, n_4, n_5, n_6, n_7, n_8, n_9, n_10, n_12, n_40, n_48, n_57, n_59, n_72, n_99, n_102, n_103, n_107, n_108, n_192, n_255, n_256, n_999, n_1000, n_104, nI_add, pk_mul, n_cl, n_inT, n_le, n_lt, n_eq, n_m1, n_m1', n_lem1, n_m1le, n_ltm1, n_m1lt, n_lepred, n_shl, fa_or, hV.2.1.1]
    refine ⟨fun y => z1 (fa_first_all (fun j hj => ?_)), fun y => ⟨(ab_hc a - p, 0, ab_hc a - (p + 1)), lx2 (by omega), rfl, rfl, rfl, f, p, p + 1, u, v, hf, z1, z2, hp, by omega, by omega, by omega, fun j hj => ?_, rfl, rfl⟩⟩
    · by_cases y2 : j < 8 * p
      · exact hg j y2
      · exact mk_p_no (fun y3 => by omega)
    · by_cases y2 : j < 8 * p
      · exact hg j y2
      · exact mk_p_no (fun y3 => by omega)
  · intro as σ0 Z h0 μ L S σ hI
    obtain ⟨rfl, rfl, rfl, f, p, q, u, v, hf, z1, z2, hp, hpq, hp2, hq, hg, rfl, rfl⟩ := hI
    obtain ⟨-, hV, hX, -⟩ := x_f0 h0
    by_cases hlt : q < ab_hc a
    · obtain ⟨e1, b1⟩ := hf p hp2
      obtain ⟨e2, b2⟩ := hf q hlt
      simp (disch := omega) only [b_Ex_changeFirstPair_81, b_Ex_changeFirstPair_69, b_Ex_changeFirstPair_41, b_Ex_changeFirstPair_28, b_Ex_changeFirstPair_17, b_Ex_changeFirstPair_13, b_Ex_changeFirstPair_2, b_Ex_changeFirstPair_0, e_al0, e_il1, e_il2, e_il3, e_is3i, e_is3r, e_is3n, e_is2i, e_is2r, e_is2n, e_is1i, e_is1r, e_is1n, e_inc1i, e_inc1r, e_inc1n, e_inc2i, e_inc2r, e_inc2n, e_c, e_i2, e_b1, e_b2, e_gi, e_gr, e_ald, e_ast, e_zr, e_cv4, e_hd, e_c10, e_c1i, e_c1r, e_sh0, e_sh1, e_sh2, e_sh3, e_sh4, e_tls, e_tln, e_tl0, e_tl1, cl_1, cl_41, cl_51, ln_51, tg_41_0, tg_41_2, Nat.reduceAdd, true_and, and_true, true_implies, not_true_eq_false, false_implies, not_false_eq_true, imp_self, forall_const, List.append_nil, ra_I, ra_J, ra_pad, true_or, or_true, Nat.reduceEqDiff, ra_bz, eq_self, if_true, if_false, false_and, and_false, Nat.zero_le, List.cons_append, List.nil_append, Nat.reduceLT, Nat.reduceLeDiff, Nat.reduceMul, Nat.reduceSub, n_0, n_1, n_2, n_3, n_4, n_5, n_6, n_7, n_8, n_9, n_10, n_12, n_40, n_48, n_57, n_59, n_72, n_99, n_102, n_103, n_107, n_108, n_192, n_255, n_256, n_999, n_1000, n_104, nI_add, pk_mul, n_cl, n_inT, n_le, n_lt, n_eq, n_m1, n_m1', n_lem1, n_m1le, n_ltm1, n_m1lt, n_lepred, n_shl, fa_or, hV.2.1.1, q_Ex_wouldChange, e1, e2, sw_at]
      refine ⟨fun y => by omega, fun _ => ⟨hX, f, p, q, hf, rfl, rfl, hp2, hlt, fun y => ?_, fun y => ⟨(ab_hc a - p, 0, ab_hc a - (q + 1)), lx3 (by omega), rfl, rfl, rfl, f, p, q + 1, u, v, hf, z1, z2, hp, by omega, hp2, by omega, fun j hj => ?_, rfl, rfl⟩⟩⟩
      · refine z2 p q hpq hlt (fa_first_eq hg (by omega) (mk_p_iff.mpr ?_)) y
        rw [show (8 * p + q) / 8 = p by omega, show (8 * p + q) % 8 = q by omega]
        exact ⟨hpq, hlt, y⟩
      · rcases (show j < 8 * p + q ∨ j = 8 * p + q by omega) with y2 | rfl
        · exact hg j y2
        · refine mk_p_no (fun y3 => y ?_)
          rw [show (8 * p + q) / 8 = p by omega, show (8 * p + q) % 8 = q by omega] at y3
          exact y3.2.2
    · simp (disch := omega) only [b_Ex_changeFirstPair_81, b_Ex_changeFirstPair_75, b_Ex_changeFirstPair_69, b_Ex_changeFirstPair_41, b_Ex_changeFirstPair_17, b_Ex_changeFirstPair_13, b_Ex_changeFirstPair_2, b_Ex_changeFirstPair_0, e_al0, e_il1, e_il2, e_il3, e_is3i, e_is3r, e_is3n, e_is2i, e_is2r, e_is2n, e_is1i, e_is1r, e_is1n, e_inc1i, e_inc1r, e_inc1n, e_inc2i, e_inc2r, e_inc2n, e_c, e_i2, e_b1, e_b2, e_gi, e_gr, e_ald, e_ast, e_zr, e_cv4, e_hd, e_c10, e_c1i, e_c1r, e_sh0, e_sh1, e_sh2, e_sh3, e_sh4, e_tls, e_tln, e_tl0, e_tl1, cl_1, cl_41, cl_51, ln_51, tg_41_0, tg_41_2, Nat.reduceAdd, true_and, and_true, true_implies, not_true_eq_false, false_implies, not_false_eq_true, imp_self, forall_const, List.append_nil, ra_I, ra_J, ra_pad, true_or, or_true, Nat.reduceEqDiff, ra_bz, eq_self, if_true, if_false, false_and, and_false, Nat.zero_le, List.cons_append, List.nil_append, Nat.reduceLT, Nat.reduceLeDiff, Nat.reduceMul, Nat.reduceSub, n_0, n_1, n_2, n_3, n_4, n_5, n_6, n_7, n_8, n_9, n_10, n_12, n_40, n_48, n_57, n_59, n_72, n_99, n_102, n_103, n_107, n_108, n_192, n_255, n_256, n_999, n_1000, n_104, nI_add, pk_mul, n_cl, n_inT, n_le, n_lt, n_eq, n_m1, n_m1', n_lem1, n_m1le, n_ltm1, n_m1lt, n_lepred, n_shl, fa_or, hV.2.1.1]
      refine ⟨fun _ => ⟨(ab_hc a - (p + 1), 1, 0), lx1 (by omega), rfl, rfl, rfl, f, p + 1, 0, _, v, hf, z1, z2, by omega, fun j hj => ?_, rfl, rfl⟩, fun y => by omega⟩
      by_cases y2 : j < 8 * p + q
      · exact hg j y2
      · exact mk_p_no (fun y3 => by omega)
theorem rc_I.mkt {a : Ab} {b : Bb} {n : Nat} {σ σ' : ra_St} (h : rc_I a b n σ) (hf : ra_fs [51] [(41, 5), (41, 6), (41, 9)] σ σ') (hs : ∀ now, σ 1 11 + σ 41 8 = nI now → rc_Y a now σ') : rc_I a b n σ' := by
  obtain ⟨h1, h2, h3, h4, h5, v, w, e', k, h6, h7, h8, h9, h10, h11, h12⟩ := h
  exact ⟨h1.fs hf (by decide), h2.fs hf (by decide), h3.fs hf (by decide), h4.fs hf (by decide), h5.fs hf (by decide), v, w, e', k, h6, h7.fs hf (by decide), h8.fs hf (by decide), h9.fs hf (by decide), hs _ (by rw [h7.1, h7.2.2.1, nI_add]), h11.fs hf (by decide), h12.fs hf (by decide)⟩
def sp_Ex_bringMarketUp (a : Ab) (b : Bb) (n : Nat) : ra_Sp := ra_f0 41 (fun σ Z => rc_I a b n σ ∧ ∀ σ', rc_I a b n σ' → rs_X a σ' → ra_up σ σ' → Z none σ')
theorem q_Ex_bringMarketUp {a : Ab} {b : Bb} {n : Nat} {oo : Nat} {σ : ra_St} {Z : ra_R} : sp_Ex_bringMarketUp a b n [.ref oo] σ Z = (oo = 41 ∧ (rc_I a b n σ ∧ ∀ σ', rc_I a b n σ' → rs_X a σ' → ra_up σ σ' → Z none σ')) := rfl
def I_Ex_bringMarketUp (a : Ab) (b : Bb) (n : Nat) (Z : ra_R) (as : List Value) (σ0 : ra_St) (t : Nat) (μ : ra_M) : ra_K := fun L S σ => S = [] ∧ as = [.ref 41] ∧ ∃ (f : Nat → Nat) (fuel c h : Nat) (u : Value), rc_V a σ ∧ rc_X a σ ∧ (∀ h, h < ab_hc a → σ 51 h = nI (f h) ∧ f h < 8) ∧ σ 41 5 = nI c ∧ σ 41 9 = σ0 1 11 + σ0 41 8 ∧ mk_end a = ((mk_run a fuel f).1, c + (mk_run a fuel f).2) ∧ c + fuel = 100 ∧ 72 < mk_pot a f + 2 * fuel ∧ ra_fs [51] [(41, 5), (41, 6), (41, 9)] σ0 σ ∧
  match t with
  | 55 => μ = (1 + fuel, 0, 0) ∧ L = [.ref 41, .int (σ0 1 11 + σ0 41 8), u]
  | _ => μ = (0, 0, ab_hc a - h) ∧ h ≤ ab_hc a ∧ mk_end a = (f, c) ∧ σ 41 6 = nI (fb_sm (fun h => mk_w a h (f h)) h) ∧ L = [.ref 41, .int (σ0 1 11 + σ0 41 8), .int (nI h)]
theorem k_Ex_bringMarketUp {l : Launch} {X : ra_X} {a : Ab} {b : Bb} {n : Nat} (hn : n < 1000000000) (hW : ab_W a) : ra_MOK l X mi_Ex_bringMarketUp (sp_Ex_bringMarketUp a b n) := by
  have h8 := ab_hc_8 a
  have hr12 := hW.2.2.2.2.1
  refine g_Ex_bringMarketUp (k_Ex_changeFirstPair hW) (sp_Ex_bringMarketUp a b n) (I_Ex_bringMarketUp a b n) ?_ ?_ ?_
  · intro as σ Z _ _ h
    obtain ⟨rfl, hI, hZ⟩ := x_f0 h
    obtain ⟨h1, h2, h3, h4, h5, v, w, e', k, h6, h7, hh8, h9, h10, h11, h12⟩ := id hI
    have en : σ 1 11 + σ 41 8 = nI (v + e') := by rw [h7.1, h7.2.2.1, nI_add]
    simp (disch := omega) only [b_Ex_bringMarketUp_131, b_Ex_bringMarketUp_103, b_Ex_bringMarketUp_92, b_Ex_bringMarketUp_85, b_Ex_bringMarketUp_72, b_Ex_bringMarketUp_65, b_Ex_bringMarketUp_55, b_Ex_bringMarketUp_22, b_Ex_bringMarketUp_21, b_Ex_bringMarketUp_0, e_al0, e_il2, e_il1, e_is2i, e_is2r, e_is2n, e_is1i, e_is1r, e_is1n, e_inc2i, e_inc2r, e_inc2n, e_c, e_i2, e_b1, e_b2, e_gi, e_gr, e_pi, e_ald, e_rld, e_cpy, e_vr, e_dupi, e_dupr, e_cv1, e_hd, e_c10, e_c1i, e_c1r, e_sh0, e_sh1, e_sh2, e_sh3, e_sh4, e_tls, e_tln, e_tl0, e_tl1, cl_1, cl_9, ln_9, cl_41, cl_42, ln_42, cl_51, ln_51, tg_1_5, tg_41_0, tg_41_1, tg_41_2, q_Ex_changeFirstPair, Nat.reduceAdd, true_and, and_true, true_implies, not_true_eq_false, false_implies, not_false_eq_true, imp_self, forall_const, List.append_nil, ra_I, ra_J, ra_pad, true_or, or_true, Nat.reduceEqDiff, ra_bz, eq_self, if_true, if_false, false_and, and_false, Nat.zero_le, List.cons_append, List.nil_append, Nat.reduceLT, Nat.reduceLeDiff, Nat.reduceMul, Nat.reduceSub, n_0, n_1, n_2, n_3, n_4, n_5, n_6, n_7, n_8, n_9, n_10, n_12, n_40, n_48, n_57, n_59, n_72, n_99, n_102, n_103, n_107, n_108, n_192, n_255, n_256, n_999, n_1000, n_104, nI_add, pk_mul, n_cl, n_inT, n_le, n_lt, n_eq, n_m1, n_m1', n_lem1, n_m1le, n_ltm1, n_m1lt, n_lepred, n_shl, fa_or, h1.2.1.1, sw_at]
    refine ⟨fun q => hZ σ hI (h10.yes (by omega) (q.trans en)) ra_up.rf, fun q => ?_⟩
    have hfs : ra_fs [51] [(41, 5), (41, 6), (41, 9)] σ (ra_sw (ra_su (ra_sw σ 41 9 (σ 1 11 + σ 41 8)) 51 (va_cpy (ra_sw σ 41 9 (σ 1 11 + σ 41 8) 9) (ra_sw σ 41 9 (σ 1 11 + σ 41 8) 51) 0 0 (ab_hc a))) 41 5 (nI 0)) := by
      refine ra_fs.sw ?_ (Or.inr (by decide))
      intro c j hc hj
      rw [show (ra_su _ 51 _ : ra_St) c = _ from ra_su_ne _ _ (fun z => hc (by rw [z]; decide))]
      exact (ra_fs.rf.sw (Or.inr (by decide)) : ra_fs [51] [(41, 5), (41, 6), (41, 9)] σ (ra_sw σ 41 9 (σ 1 11 + σ 41 8))) c j hc hj
    refine ⟨by omega, by omega, by omega, _, rfl, rfl, ab_ow a, 100, 0, 0, _, h1.fs hfs (by decide), h3.fs hfs (by decide), fun h hh => ⟨?_, by have := ab_ow_lt hh; omega⟩, by simp [sw_at], ?_, by unfold mk_end; rw [Nat.zero_add], by omega, by omega, hfs, rfl, rfl⟩
    · rw [sw_at, if_neg (by decide), ra_su_self]
      unfold va_cpy
      rw [if_pos (by omega), show 0 + (h - 0) = h by omega, sw_at, if_neg (by decide)]
      exact (h1.2.2.2.2 h hh).1
    · rw [sw_at, if_pos rfl, if_neg (by decide), show (ra_su _ 51 _ : ra_St) 41 = _ from ra_su_ne _ _ (by decide)]
      simp [sw_at]
  · intro as σ0 Z h0 μ L S σ hI
    obtain ⟨rfl, rfl, f, fuel, c, h, u, hV, hX, hf, e5, e9, he, hc, hpot, hfs, rfl, rfl⟩ := hI
    simp (disch := omega) only [b_Ex_bringMarketUp_131, b_Ex_bringMarketUp_103, b_Ex_bringMarketUp_92, b_Ex_bringMarketUp_85, b_Ex_bringMarketUp_72, b_Ex_bringMarketUp_65, b_Ex_bringMarketUp_55, b_Ex_bringMarketUp_22, b_Ex_bringMarketUp_21, b_Ex_bringMarketUp_0, e_al0, e_il2, e_il1, e_is2i, e_is2r, e_is2n, e_is1i, e_is1r, e_is1n, e_inc2i, e_inc2r, e_inc2n, e_c, e_i2, e_b1, e_b2, e_gi, e_gr, e_pi, e_ald, e_rld, e_cpy, e_vr, e_dupi, e_dupr, e_cv1, e_hd, e_c10, e_c1i, e_c1r, e_sh0, e_sh1, e_sh2, e_sh3, e_sh4, e_tls, e_tln, e_tl0, e_tl1, cl_1, cl_9, ln_9, cl_41, cl_42, ln_42, cl_51, ln_51, tg_1_5, tg_41_0, tg_41_1, tg_41_2, q_Ex_changeFirstPair, Nat.reduceAdd, true_and, and_true, true_implies, not_true_eq_false, false_implies, not_false_eq_true, imp_self, forall_const, List.append_nil, ra_I, ra_J, ra_pad, true_or, or_true, Nat.reduceEqDiff, ra_bz, eq_self, if_true, if_false, false_and, and_false, Nat.zero_le, List.cons_append, List.nil_append, Nat.reduceLT, Nat.reduceLeDiff, Nat.reduceMul, Nat.reduceSub, n_0, n_1, n_2, n_3, n_4, n_5, n_6, n_7, n_8, n_9, n_10, n_12, n_40, n_48, n_57, n_59, n_72, n_99, n_102, n_103, n_107, n_108, n_192, n_255, n_256, n_999, n_1000, n_104, nI_add, pk_mul, n_cl, n_inT, n_le, n_lt, n_eq, n_m1, n_m1', n_lem1, n_m1le, n_ltm1, n_m1lt, n_lepred, n_shl, fa_or, e5, sw_at]
    refine ⟨fun q => by omega, fun _ => ⟨hV, hX, f, hf, fun q => ?_, fun p q hpq hq hff hw => ?_⟩⟩
    · have hfs1 : ra_fs [51] [(41, 5), (41, 6), (41, 9)] σ (ra_sw σ 41 6 (nI 0)) := ra_fs.rf.sw (Or.inr (by decide))
      have hend : mk_end a = (f, c) := by
        rw [he]
        cases fuel with
        | zero => rfl
        | succ fuel =>
          rw [mk_run, if_neg (by omega)]
          rfl
      exact ⟨(0, 0, ab_hc a - 0), lx1 (by omega), rfl, rfl, f, fuel, c, 0, u, hV.fs hfs1 (by decide), hX.fs hfs1 (by decide), by simpa [sw_at] using hf, by simpa [sw_at] using e5, by simpa [sw_at] using e9, he, hc, hpot, hfs.tr hfs1 (by decide) (by decide), rfl, by omega, hend, by simp [sw_at, fb_sm], rfl⟩
    · have hps := mk_pot_sw (a := a) (f := f) (show p < ab_hc a by omega) hq (by omega) hw
      have hp72 := mk_pot_72 hW (mk_sw f p q)
      cases fuel with
      | zero => omega
      | succ fuel =>
        rw [mk_run, hff, if_pos (by omega), show (8 * p + q) / 8 = p by omega, show (8 * p + q) % 8 = q by omega] at he
        have hfs1 : ra_fs [51] [(41, 5), (41, 6), (41, 9)] σ (ra_sw (ra_sw (ra_sw σ 51 p (nI (f q))) 51 q (nI (f p))) 41 5 (nI (c + 1))) := ((ra_fs.rf.sw (Or.inl (by decide))).sw (Or.inl (by decide))).sw (Or.inr (by decide))
        refine ⟨(1 + fuel, 0, 0), lx1 (by omega), rfl, rfl, mk_sw f p q, fuel, c + 1, 0, u, hV.fs hfs1 (by decide), hX.fs hfs1 (by decide), fun j hj => ?_, by simp [sw_at], by simpa [sw_at] using e9, by rw [he]; simp only [Prod.mk.injEq, true_and]; omega, by omega, by omega, hfs.tr hfs1 (by decide) (by decide), rfl, rfl⟩
        have := hf j hj
        unfold mk_sw
        rw [sw_at, if_neg (by decide)]
        simp only [sw_at, if_true]
        by_cases e : j = q
        · rw [if_pos e, if_neg (by omega), if_pos e]
          exact ⟨rfl, (hf p (by omega)).2⟩
        · rw [if_neg e, if_neg e]
          by_cases e2 : j = p
          · rw [if_pos e2, if_pos e2]
            exact ⟨rfl, (hf q hq).2⟩
          · rw [if_neg e2, if_neg e2]
            exact this
  · intro as σ0 Z h0 μ L S σ hI
    obtain ⟨rfl, rfl, f, fuel, c, h, u, hV, hX, hf, e5, e9, he, hc, hpot, hfs, rfl, hh, hend, e6, rfl⟩ := hI
    obtain ⟨-, hI0, hZ⟩ := x_f0 h0
    by_cases hlt : h < ab_hc a
    · obtain ⟨e1, b1⟩ := hf h hlt
      obtain ⟨t1, t2, t3⟩ := tg_w h (by omega)
      have x1 := hX h (f h) (by omega) b1
      simp (disch := omega) only [b_Ex_bringMarketUp_103, b_Ex_bringMarketUp_92, b_Ex_bringMarketUp_85, b_Ex_bringMarketUp_72, b_Ex_bringMarketUp_65, b_Ex_bringMarketUp_55, b_Ex_bringMarketUp_22, b_Ex_bringMarketUp_21, b_Ex_bringMarketUp_0, e_al0, e_il2, e_il1, e_is2i, e_is2r, e_is2n, e_is1i, e_is1r, e_is1n, e_inc2i, e_inc2r, e_inc2n, e_c, e_i2, e_b1, e_b2, e_gi, e_gr, e_pi, e_ald, e_rld, e_cpy, e_vr, e_dupi, e_dupr, e_cv1, e_hd, e_c10, e_c1i, e_c1r, e_sh0, e_sh1, e_sh2, e_sh3, e_sh4, e_tls, e_tln, e_tl0, e_tl1, cl_1, cl_9, ln_9, cl_41, cl_42, ln_42, cl_51, ln_51, tg_1_5, tg_41_0, tg_41_1, tg_41_2, q_Ex_changeFirstPair, Nat.reduceAdd, true_and, and_true, true_implies, not_true_eq_false, false_implies, not_false_eq_true, imp_self, forall_const, List.append_nil, ra_I, ra_J, ra_pad, true_or, or_true, Nat.reduceEqDiff, ra_bz, eq_self, if_true, if_false, false_and, and_false, Nat.zero_le, List.cons_append, List.nil_append, Nat.reduceLT, Nat.reduceLeDiff, Nat.reduceMul, Nat.reduceSub, n_0, n_1, n_2, n_3, n_4, n_5, n_6, n_7, n_8, n_9, n_10, n_12, n_40, n_48, n_57, n_59, n_72, n_99, n_102, n_103, n_107, n_108, n_192, n_255, n_256, n_999, n_1000, n_104, nI_add, pk_mul, n_cl, n_inT, n_le, n_lt, n_eq, n_m1, n_m1', n_lem1, n_m1le, n_ltm1, n_m1lt, n_lepred, n_shl, fa_or, hV.2.1.1, e1, e6, t1, t2, t3, x1]
      have hfs1 : ra_fs [51] [(41, 5), (41, 6), (41, 9)] σ (ra_sw σ 41 6 (nI (fb_sm (fun h => mk_w a h (f h)) h + a 6 (8 * h + f h)))) := ra_fs.rf.sw (Or.inr (by decide))
      exact ⟨fun q => by omega, fun _ => ⟨(0, 0, ab_hc a - (h + 1)), lx3 (by omega), rfl, rfl, f, fuel, c, h + 1, u, hV.fs hfs1 (by decide), hX.fs hfs1 (by decide), by simpa [sw_at] using hf, by simpa [sw_at] using e5, by simpa [sw_at] using e9, he, hc, hpot, hfs.tr hfs1 (by decide) (by decide), rfl, by omega, hend, by rw [sw_at, if_pos rfl, if_pos rfl]; rfl, rfl⟩⟩
    · simp (disch := omega) only [b_Ex_bringMarketUp_131, b_Ex_bringMarketUp_92, b_Ex_bringMarketUp_85, b_Ex_bringMarketUp_72, b_Ex_bringMarketUp_65, b_Ex_bringMarketUp_55, b_Ex_bringMarketUp_22, b_Ex_bringMarketUp_21, b_Ex_bringMarketUp_0, e_al0, e_il2, e_il1, e_is2i, e_is2r, e_is2n, e_is1i, e_is1r, e_is1n, e_inc2i, e_inc2r, e_inc2n, e_c, e_i2, e_b1, e_b2, e_gi, e_gr, e_pi, e_ald, e_rld, e_cpy, e_vr, e_dupi, e_dupr, e_cv1, e_hd, e_c10, e_c1i, e_c1r, e_sh0, e_sh1, e_sh2, e_sh3, e_sh4, e_tls, e_tln, e_tl0, e_tl1, cl_1, cl_9, ln_9, cl_41, cl_42, ln_42, cl_51, ln_51, tg_1_5, tg_41_0, tg_41_1, tg_41_2, q_Ex_changeFirstPair, Nat.reduceAdd, true_and, and_true, true_implies, not_true_eq_false, false_implies, not_false_eq_true, imp_self, forall_const, List.append_nil, ra_I, ra_J, ra_pad, true_or, or_true, Nat.reduceEqDiff, ra_bz, eq_self, if_true, if_false, false_and, and_false, Nat.zero_le, List.cons_append, List.nil_append, Nat.reduceLT, Nat.reduceLeDiff, Nat.reduceMul, Nat.reduceSub, n_0, n_1, n_2, n_3, n_4, n_5, n_6, n_7, n_8, n_9, n_10, n_12, n_40, n_48, n_57, n_59, n_72, n_99, n_102, n_103, n_107, n_108, n_192, n_255, n_256, n_999, n_1000, n_104, nI_add, pk_mul, n_cl, n_inT, n_le, n_lt, n_eq, n_m1, n_m1', n_lem1, n_m1le, n_ltm1, n_m1lt, n_lepred, n_shl, fa_or, hV.2.1.1]
      refine ⟨fun _ => ?_, fun q => by omega⟩
      have he : h = ab_hc a := by omega
      subst he
      have hS : rs_X a σ := by
        unfold rs_X an_mk
        rw [hend]
        refine ⟨by rw [if_pos rfl]; exact e5, by rw [if_neg (by decide), if_pos rfl]; exact e6, fun j hj => ?_⟩
        have m1 : ¬ nI j = -1 := by
          have : (nI j = -nI 1) = False := n_m1 (by omega)
          exact fun z => this ▸ z
        have m2 : ¬ nI j = -2 := (n_neg (x := -2) (n := j) (by decide) (by omega)).2.2 ∘ Eq.symm
        rw [if_neg m1, if_neg m2, n_cl (by omega)]
        exact (hf j hj).1
      refine hZ σ (hI0.mkt hfs (fun now hnow => ?_)) hS (hfs.hi (by decide))
      unfold rc_Y
      rw [e9, hnow]
      exact rc_st.now hS
def sp_R_market (a : Ab) (b : Bb) (n : Nat) : ra_Sp := ra_f1 0 (fun x σ Z => rc_I a b n σ ∧ ∀ σ', rc_I a b n σ' → ra_up σ σ' → Z (some (.int (an_market a x))) σ')
theorem q_R_market {a : Ab} {b : Bb} {n : Nat} {oo : Nat} {x : Int32} {σ : ra_St} {Z : ra_R} : sp_R_market a b n [.ref oo, .int x] σ Z = (oo = 0 ∧ (rc_I a b n σ ∧ ∀ σ', rc_I a b n σ' → ra_up σ σ' → Z (some (.int (an_market a x))) σ')) := rfl
theorem k_R_market {l : Launch} {X : ra_X} {a : Ab} {b : Bb} {n : Nat} (hn : n < 1000000000) (hW : ab_W a) : ra_MOK l X mi_R_market (sp_R_market a b n) := by
  have h8 := ab_hc_8 a
  refine g_R_market (k_R_isNoHouse (a := a)) (k_Ex_bringMarketUp (b := b) hn hW) (sp_R_market a b n) ?_
  intro as σ Z _ _ h
  obtain ⟨x, rfl, hI, hZ⟩ := x_f1 h
  by_cases hy : an_hs a x ∨ x = -1 ∨ x = -2
  · rw [an_market_yes hy] at hZ
    have body : rc_I a b n σ ∧ ∀ σ' : ra_St, rc_I a b n σ' → rs_X a σ' → ra_up σ σ' → (x = -nI 1 → Z (some (.int (σ' 41 5))) σ') ∧ (¬ x = -nI 1 → (x = -nI 2 → Z (some (.int (σ' 41 6))) σ') ∧ (¬ x = -nI 2 → vp_in x 8 ∧ Z (some (.int (σ' 51 x.toNatClampNeg))) σ')) := by
      refine ⟨hI, fun σ1 g1 g2 g3 => ?_⟩
      have h9 := hZ σ1 g1 g3
      refine ⟨fun q => ?_, fun q => ⟨fun q2 => ?_, fun q2 => ?_⟩⟩
      · rw [g2.1, show (-1 : Int32) = -nI 1 from rfl, ← q]
        exact h9
      · rw [g2.2.1, show (-2 : Int32) = -nI 2 from rfl, ← q2]
        exact h9
      · rcases hy with z | z | z
        · obtain ⟨m, hm, rfl⟩ := an_hs_of z
          rw [n_cl (by omega), g2.2.2 m hm]
          exact ⟨vi (by omega) (by decide), h9⟩
        · exact absurd z q
        · exact absurd z q2
    simp (disch := omega) only [b_R_market_67, b_R_market_58, b_R_market_48, b_R_market_42, b_R_market_34, b_R_market_22, b_R_market_19, b_R_market_11, b_R_market_5, b_R_market_0, e_al0, e_il1, e_c, e_b1, e_b2, e_gi, e_gr, e_ald, e_ir, e_cv1, e_hd, e_cv2, e_c10, e_c1i, e_c1r, e_sh0, e_sh1, e_sh2, e_sh3, e_sh4, e_tls, e_tln, e_tl0, e_tl1, cl_0, cl_41, cl_51, ln_51, tg_0_4, tg_41_2, q_R_isNoHouse, q_Ex_bringMarketUp, Nat.reduceAdd, true_and, and_true, true_implies, not_true_eq_false, false_implies, not_false_eq_true, imp_self, forall_const, List.append_nil, ra_I, ra_J, ra_pad, true_or, or_true, Nat.reduceEqDiff, ra_bz, eq_self, if_true, if_false, false_and, and_false, Nat.zero_le, List.cons_append, List.nil_append, Nat.reduceLT, Nat.reduceLeDiff, Nat.reduceMul, Nat.reduceSub, n_0, n_1, n_2, n_3, n_4, n_5, n_6, n_7, n_8, n_9, n_10, n_12, n_40, n_48, n_57, n_59, n_72, n_99, n_102, n_103, n_107, n_108, n_192, n_255, n_256, n_999, n_1000, n_104, nI_add, pk_mul, n_cl, n_inT, n_le, n_lt, n_eq, n_m1, n_m1', n_lem1, n_m1le, n_ltm1, n_m1lt, n_lepred, n_shl, fa_or]
    refine ⟨fun _ => body, fun q => ⟨fun _ => body, fun q2 => ⟨hI.1, fun q3 => ?_, fun _ => body⟩⟩⟩
    rcases hy with z | z | z
    · exact absurd z q3
    · exact absurd z q
    · exact absurd z q2
  · rw [an_market_no hy] at hZ
    have h9 := hZ σ hI ra_up.rf
    simp (disch := omega) only [b_R_market_67, b_R_market_58, b_R_market_48, b_R_market_42, b_R_market_34, b_R_market_19, b_R_market_11, b_R_market_5, b_R_market_0, e_al0, e_il1, e_c, e_b1, e_b2, e_gi, e_gr, e_ald, e_ir, e_cv1, e_hd, e_cv2, e_c10, e_c1i, e_c1r, e_sh0, e_sh1, e_sh2, e_sh3, e_sh4, e_tls, e_tln, e_tl0, e_tl1, cl_0, cl_41, cl_51, ln_51, tg_0_4, tg_41_2, q_R_isNoHouse, q_Ex_bringMarketUp, Nat.reduceAdd, true_and, and_true, true_implies, not_true_eq_false, false_implies, not_false_eq_true, imp_self, forall_const, List.append_nil, ra_I, ra_J, ra_pad, true_or, or_true, Nat.reduceEqDiff, ra_bz, eq_self, if_true, if_false, false_and, and_false, Nat.zero_le, List.cons_append, List.nil_append, Nat.reduceLT, Nat.reduceLeDiff, Nat.reduceMul, Nat.reduceSub, n_0, n_1, n_2, n_3, n_4, n_5, n_6, n_7, n_8, n_9, n_10, n_12, n_40, n_48, n_57, n_59, n_72, n_99, n_102, n_103, n_107, n_108, n_192, n_255, n_256, n_999, n_1000, n_104, nI_add, pk_mul, n_cl, n_inT, n_le, n_lt, n_eq, n_m1, n_m1', n_lem1, n_m1le, n_ltm1, n_m1lt, n_lepred, n_shl, fa_or]
    exact ⟨fun q => absurd (Or.inr (Or.inl q)) hy, fun _ => ⟨fun q => absurd (Or.inr (Or.inr q)) hy, fun _ => ⟨hI.1, fun _ => h9, fun q => absurd (Or.inl (Classical.not_not.mp q)) hy⟩⟩⟩
