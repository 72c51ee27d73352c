/-! the class: sheets read, written, copied -/
theorem ab_rain_sgn {a : Ab} (hW : ab_W a) (v : Int32) : ((ab_rain a v).2 < 0 ∧ (ab_rain a v).2 ≤ 0 ∧ ¬ (an_in v 9 ∧ a 3 0 ≠ 12)) ∨ (¬ (ab_rain a v).2 < 0 ∧ ¬ (ab_rain a v).2 ≤ 0 ∧ an_in v 9 ∧ a 3 0 ≠ 12) := by
  by_cases hv : an_in v 9
  · obtain ⟨n, hn, rfl⟩ := an_in_of hv (by decide)
    by_cases hf : a 3 0 = 12
    · rw [ab_rain_full hn hf]
      exact Or.inl ⟨show (-4 : Int32) < 0 by decide, show (-4 : Int32) ≤ 0 by decide, fun z => z.2 hf⟩
    · rw [ab_rain_yes hn hf]
      have := hW.2.2.2.2.1
      refine Or.inr ⟨?_, ?_, hv, hf⟩
      · show ¬ nI (a 3 0 + 1) < nI 0
        rw [n_lt (by omega) (by omega)]
        omega
      · show ¬ nI (a 3 0 + 1) ≤ nI 0
        rw [n_le (by omega) (by omega)]
        omega
  · rw [ab_rain_no hv]
    exact Or.inl ⟨show (-2 : Int32) < 0 by decide, show (-2 : Int32) ≤ 0 by decide, fun z => hv z.1⟩
def sp_R_read (a : Ab) (b : Bb) (n : Nat) : ra_Sp := ra_f1 0 (fun s σ Z => rc_I a b n σ ∧ bb_W b ∧ ∀ σ', rc_I (ab_read a b s).1 (ab_read a b s).2.1 (n + 1) σ' → ra_up σ σ' → Z (some (.int (ab_read a b s).2.2)) σ')
theorem q_R_read {a : Ab} {b : Bb} {n : Nat} {oo : Nat} {s : Int32} {σ : ra_St} {Z : ra_R} : sp_R_read a b n [.ref oo, .int s] σ Z = (oo = 0 ∧ (rc_I a b n σ ∧ bb_W b ∧ ∀ σ', rc_I (ab_read a b s).1 (ab_read a b s).2.1 (n + 1) σ' → ra_up σ σ' → Z (some (.int (ab_read a b s).2.2)) σ')) := rfl
def I_R_read (a : Ab) (b : Bb) (n : Nat) (Z : ra_R) (as : List Value) (σ0 : ra_St) (c : Nat) (μ : ra_M) : ra_K := fun L S σ => S = [] ∧ ∃ s m i : Nat, as = [.ref 0, .int (nI s)] ∧ s ≤ 3 ∧ m ≤ 48 ∧ b 3 s = nI m ∧ i ≤ m ∧ b 1 s = 1 ∧ (∀ k, k < i → ¬ (ab_rain (ab_rd a b s k) (b 4 (48 * s + k))).2 ≤ 0) ∧ rc_I (ab_rd a b s i) b n σ ∧ ra_up σ0 σ ∧ μ = (48 - i, 0, 0) ∧ L = [.ref 0, .int (nI s), .ref (74 + 2 * s), .int (nI i)]
theorem k_R_read {l : Launch} {X : ra_X} {a : Ab} {b : Bb} {n : Nat} (hn : n < 1000000000) (hW : ab_W a) : ra_MOK l X mi_R_read (sp_R_read a b n) := by
  refine g_R_read (c2 := fun as σ Z => ∃ a, ab_W a ∧ sp_Wt_take a b as σ Z) k_R_isNoSheet k_R_find (ra_MOK_ex (fun a ha => k_Wt_take ha)) (sp_R_read a b n) (I_R_read a b n) ?_ ?_
  · intro as σ Z _ _ h
    obtain ⟨s, rfl, hI, hB, hZ⟩ := x_f1 h
    have hC := hI.2.2.2.2.1
    by_cases hy : an_in s 3
    · obtain ⟨s, hs, rfl⟩ := an_in_of hy (by decide)
      have e : ab_read a b (nI s) = if b 1 s = 0 then (a, bb_u b 5 0 1, -11) else (ab_rd a b s (rd_n a b s (b 3 s).toNatClampNeg), b, nI (rd_n a b s (b 3 s).toNatClampNeg)) := by
        unfold ab_read
        rw [if_pos hy, n_cl (by omega)]
      rw [e] at hZ
      obtain ⟨t1, t2, t3, t4, t5⟩ := tg_q s (by omega)
      obtain ⟨c1, c2⟩ := hC.2.2 s (by omega)
      obtain ⟨hb, -, m, hm, em⟩ := hB s (by omega)
      rcases hb with q0 | q1
      · rw [if_pos q0] at hZ
        simp (disch := omega) only [b_R_read_62, b_R_read_56, b_R_read_40, b_R_read_32, b_R_read_24, b_R_read_10, b_R_read_7, b_R_read_0, e_il3, e_al0, e_al2, e_il1, e_is3i, e_is3r, e_is3n, e_as2i, e_as2r, e_as2n, e_inc3i, e_inc3r, e_inc3n, e_c, e_b1, e_b2, e_gi, e_gr, e_ald, e_rld, e_ir, e_cs1, e_cv2, e_hd, e_c10, e_c1i, e_c1r, e_sh0, e_sh1, e_sh2, e_sh3, e_sh4, e_tls, e_tln, e_tl0, e_tl1, cl_0, cl_12, cl_73, ln_73, tg_0_1, tg_0_8, q_R_isNoSheet, q_R_find, q_Wt_take, Nat.reduceAdd, true_and, and_true, true_implies, not_true_eq_false, false_implies, not_false_eq_true, imp_self, forall_const, List.append_nil, ra_I, ra_J, ra_pad, true_or, or_true, Nat.reduceEqDiff, ra_bz, eq_self, if_true, if_false, false_and, and_false, Nat.zero_le, List.cons_append, List.nil_append, Nat.reduceLT, Nat.reduceLeDiff, Nat.reduceMul, Nat.reduceSub, n_0, n_1, n_2, n_3, n_4, n_5, n_6, n_7, n_8, n_9, n_10, n_12, n_40, n_48, n_57, n_59, n_72, n_99, n_102, n_103, n_107, n_108, n_192, n_255, n_256, n_999, n_1000, n_104, nI_add, pk_mul, n_cl, n_inT, n_le, n_lt, n_eq, n_m1, n_m1', n_lem1, n_m1le, n_ltm1, n_m1lt, n_lepred, n_shl, fa_or, t1, t2, c1 q0]
        exact ⟨fun q => absurd hy q, fun _ => hZ _ hI.met.1 hI.met.2⟩
      · obtain ⟨d1, d2, d3, d4⟩ := c2 q1
        simp (disch := omega) only [b_R_read_62, b_R_read_56, b_R_read_40, b_R_read_32, b_R_read_30, b_R_read_24, b_R_read_10, b_R_read_7, b_R_read_0, e_il3, e_al0, e_al2, e_il1, e_is3i, e_is3r, e_is3n, e_as2i, e_as2r, e_as2n, e_inc3i, e_inc3r, e_inc3n, e_c, e_b1, e_b2, e_gi, e_gr, e_ald, e_rld, e_ir, e_cs1, e_cv2, e_hd, e_c10, e_c1i, e_c1r, e_sh0, e_sh1, e_sh2, e_sh3, e_sh4, e_tls, e_tln, e_tl0, e_tl1, cl_0, cl_12, cl_73, ln_73, tg_0_1, tg_0_8, q_R_isNoSheet, q_R_find, q_Wt_take, Nat.reduceAdd, true_and, and_true, true_implies, not_true_eq_false, false_implies, not_false_eq_true, imp_self, forall_const, List.append_nil, ra_I, ra_J, ra_pad, true_or, or_true, Nat.reduceEqDiff, ra_bz, eq_self, if_true, if_false, false_and, and_false, Nat.zero_le, List.cons_append, List.nil_append, Nat.reduceLT, Nat.reduceLeDiff, Nat.reduceMul, Nat.reduceSub, n_0, n_1, n_2, n_3, n_4, n_5, n_6, n_7, n_8, n_9, n_10, n_12, n_40, n_48, n_57, n_59, n_72, n_99, n_102, n_103, n_107, n_108, n_192, n_255, n_256, n_999, n_1000, n_104, nI_add, pk_mul, n_cl, n_inT, n_le, n_lt, n_eq, n_m1, n_m1', n_lem1, n_m1le, n_ltm1, n_m1lt, n_lepred, n_shl, fa_or, t1, t2, d1]
        exact ⟨fun q => absurd hy q, fun _ => ⟨_, rfl, s, m, 0, rfl, hs, hm, em, by omega, q1, fun k hk => by omega, hI, ra_up.rf, rfl, rfl⟩⟩
    · have e : ab_read a b s = (a, b, -2) := by
        unfold ab_read
        exact if_neg hy
      rw [e] at hZ
      have h9 := hZ σ (hI.more (by omega)) ra_up.rf
      simp (disch := omega) only [b_R_read_62, b_R_read_56, b_R_read_40, b_R_read_32, b_R_read_30, b_R_read_24, b_R_read_7, b_R_read_0, e_il3, e_al0, e_al2, e_il1, e_is3i, e_is3r, e_is3n, e_as2i, e_as2r, e_as2n, e_inc3i, e_inc3r, e_inc3n, e_c, e_b1, e_b2, e_gi, e_gr, e_ald, e_rld, e_ir, e_cs1, e_cv2, e_hd, e_c10, e_c1i, e_c1r, e_sh0, e_sh1, e_sh2, e_sh3, e_sh4, e_tls, e_tln, e_tl0, e_tl1, cl_0, cl_12, cl_73, ln_73, tg_0_1, tg_0_8, q_R_isNoSheet, q_R_find, q_Wt_take, Nat.reduceAdd, true_and, and_true, true_implies, not_true_eq_false, false_implies, not_false_eq_true, imp_self, forall_const, List.append_nil, ra_I, ra_J, ra_pad, true_or, or_true, Nat.reduceEqDiff, ra_bz, eq_self, if_true, if_false, false_and, and_false, Nat.zero_le, List.cons_append, List.nil_append, Nat.reduceLT, Nat.reduceLeDiff, Nat.reduceMul, Nat.reduceSub, n_0, n_1, n_2, n_3, n_4, n_5, n_6, n_7, n_8, n_9, n_10, n_12, n_40, n_48, n_57, n_59, n_72, n_99, n_102, n_103, n_107, n_108, n_192, n_255, n_256, n_999, n_1000, n_104, nI_add, pk_mul, n_cl, n_inT, n_le, n_lt, n_eq, n_m1, n_m1', n_lem1, n_m1le, n_ltm1, n_m1lt, n_lepred, n_shl, fa_or]
      exact ⟨fun _ => h9, fun q => absurd (Classical.not_not.mp q) hy⟩
  · intro as σ0 Z h0 μ L S σ hI
    obtain ⟨rfl, s, m, i, rfl, hs, hm, em, hi, h1, hno, hI, hu, rfl, rfl⟩ := hI
    obtain ⟨_, e, -, hB, hZ⟩ := x_f1 h0
    cases e
    have e : ab_read a b (nI s) = (ab_rd a b s (rd_n a b s (b 3 s).toNatClampNeg), b, nI (rd_n a b s (b 3 s).toNatClampNeg)) := by
      unfold ab_read
      rw [if_pos (an_in_nI hs (by decide)), n_cl (by omega), if_neg (by rw [h1]; decide)]
    rw [e, em, n_cl (by omega)] at hZ
    obtain ⟨t1, t2, t3, t4, t5⟩ := tg_q s (by omega)
    obtain ⟨d1, d2, d3, d4⟩ := (hI.2.2.2.2.1.2.2 s (by omega)).2 h1
    rw [em] at d3 d4
    rw [n_cl (by omega)] at d4
    have hfa : ∀ k, k < i → decide ((ab_rain (ab_rd a b s k) (b 4 (48 * s + k))).2 ≤ 0) = false := fun k hk => decide_eq_false (hno k hk)
    by_cases hlt : i < m
    · have hi4 := d4 i hlt
      have hWr := ab_rd_W hW b s i
      have sg := ab_rain_sgn hWr (b 4 (48 * s + i))
      simp (disch := omega) only [b_R_read_62, b_R_read_56, b_R_read_40, b_R_read_32, b_R_read_30, b_R_read_24, b_R_read_10, b_R_read_7, b_R_read_0, e_il3, e_al0, e_al2, e_il1, e_is3i, e_is3r, e_is3n, e_as2i, e_as2r, e_as2n, e_inc3i, e_inc3r, e_inc3n, e_c, e_b1, e_b2, e_gi, e_gr, e_ald, e_rld, e_ir, e_cs1, e_cv2, e_hd, e_c10, e_c1i, e_c1r, e_sh0, e_sh1, e_sh2, e_sh3, e_sh4, e_tls, e_tln, e_tl0, e_tl1, cl_0, cl_12, cl_73, ln_73, tg_0_1, tg_0_8, q_R_isNoSheet, q_R_find, q_Wt_take, Nat.reduceAdd, true_and, and_true, true_implies, not_true_eq_false, false_implies, not_false_eq_true, imp_self, forall_const, List.append_nil, ra_I, ra_J, ra_pad, true_or, or_true, Nat.reduceEqDiff, ra_bz, eq_self, if_true, if_false, false_and, and_false, Nat.zero_le, List.cons_append, List.nil_append, Nat.reduceLT, Nat.reduceLeDiff, Nat.reduceMul, Nat.reduceSub, n_0, n_1, n_2, n_3, n_4, n_5, n_6, n_7, n_8, n_9, n_10, n_12, n_40, n_48, n_57, n_59, n_72, n_99, n_102, n_103, n_107, n_108, n_192, n_255, n_256, n_999, n_1000, n_104, nI_add, pk_mul, n_cl, n_inT, n_le, n_lt, n_eq, n_m1, n_m1', n_lem1, n_m1le, n_ltm1, n_m1lt, n_lepred, n_shl, fa_or, t2, t3, t4, t5, d3, hi4, q_Wt_take]
      refine ⟨fun q => by omega, fun _ => ⟨ab_rd a b s i, hWr, n, hn, hI, fun y1 y2 σ' g1 g2 => ⟨fun q => ?_, fun q => ⟨(48 - (i + 1), 0, 0), lx1 (by omega), rfl, s, m, i + 1, rfl, hs, hm, em, by omega, h1, fun k hk => ?_, g1, hu.tr g2, rfl, rfl⟩⟩, fun y => ⟨fun q => ?_, fun q => ?_⟩⟩⟩
      · rcases sg with ⟨s1, s2, s3⟩ | ⟨s1, s2, s3⟩
        · exact absurd ⟨y1, y2⟩ s3
        · exact absurd q s1
      · rcases (show k < i ∨ k = i by omega) with z | rfl
        · exact hno k z
        · rcases sg with ⟨s1, s2, s3⟩ | ⟨s1, s2, s3⟩
          · exact absurd s1 q
          · exact s2
      · rcases sg with ⟨s1, s2, s3⟩ | ⟨s1, s2, s3⟩
        · have e9 : rd_n a b s m = i := fa_first_eq hfa hlt (decide_eq_true s2)
          rw [e9] at hZ
          exact hZ σ (hI.more (by omega)) hu
        · exact absurd q s1
      · rcases sg with ⟨s1, s2, s3⟩ | ⟨s1, s2, s3⟩
        · exact absurd s1 q
        · exact absurd s3 y
    · simp (disch := omega) only [b_R_read_62, b_R_read_56, b_R_read_32, b_R_read_30, b_R_read_24, b_R_read_10, b_R_read_7, b_R_read_0, e_il3, e_al0, e_al2, e_il1, e_is3i, e_is3r, e_is3n, e_as2i, e_as2r, e_as2n, e_inc3i, e_inc3r, e_inc3n, e_c, e_b1, e_b2, e_gi, e_gr, e_ald, e_rld, e_ir, e_cs1, e_cv2, e_hd, e_c10, e_c1i, e_c1r, e_sh0, e_sh1, e_sh2, e_sh3, e_sh4, e_tls, e_tln, e_tl0, e_tl1, cl_0, cl_12, cl_73, ln_73, tg_0_1, tg_0_8, q_R_isNoSheet, q_R_find, q_Wt_take, Nat.reduceAdd, true_and, and_true, true_implies, not_true_eq_false, false_implies, not_false_eq_true, imp_self, forall_const, List.append_nil, ra_I, ra_J, ra_pad, true_or, or_true, Nat.reduceEqDiff, ra_bz, eq_self, if_true, if_false, false_and, and_false, Nat.zero_le, List.cons_append, List.nil_append, Nat.reduceLT, Nat.reduceLeDiff, Nat.reduceMul, Nat.reduceSub, n_0, n_1, n_2, n_3, n_4, n_5, n_6, n_7, n_8, n_9, n_10, n_12, n_40, n_48, n_57, n_59, n_72, n_99, n_102, n_103, n_107, n_108, n_192, n_255, n_256, n_999, n_1000, n_104, nI_add, pk_mul, n_cl, n_inT, n_le, n_lt, n_eq, n_m1, n_m1', n_lem1, n_m1le, n_ltm1, n_m1lt, n_lepred, n_shl, fa_or, t2, d3]
      refine ⟨fun _ => ?_, fun q => by omega⟩
      have hn2 : i = m := by omega
      subst hn2
      have e9 : rd_n a b s i = i := fa_first_all hfa
      rw [e9] at hZ
      exact hZ σ (hI.more (by omega)) hu
theorem rc_I.oth0 {a : Ab} {b b' : Bb} {n : Nat} {σ σ' : ra_St} (h : rc_I a b n σ) (hC : rc_C b' σ') (hf : ra_fs [72, 74, 75, 76, 77, 78, 79, 80, 81] [(0, 9)] σ σ') : rc_I a b' n σ' := by
  obtain ⟨h1, h2, h3, h4, h5, v, w, e', k, h6, h7, h8, h9, h10, h11, h12⟩ := h
  exact ⟨h1.fs hf (by decide), h2.fs hf (by decide), h3.fs hf (by decide), h4.fs hf (by decide), hC, v, w, e', k, h6, h7.fs hf (by decide), h8.fs hf (by decide), h9.fs hf (by decide), h10.fs hf (by decide), h11.fs hf (by decide), h12.fs hf (by decide)⟩
theorem bb_W_of {b b' : Bb} (hB : bb_W b) (h : ∀ p q, p ≠ 4 → b' p q = b p q) : bb_W b' := by
  intro s hs
  rw [h 1 s (by decide), h 2 s (by decide), h 3 s (by decide)]
  exact hB s hs
def sp_R_write (a : Ab) (b : Bb) (n : Nat) : ra_Sp := ra_f1 0 (fun s σ Z => rc_I a b n σ ∧ bb_W b ∧ ∀ σ', rc_I a (bb_write a b s).1 (n + 1) σ' → ra_up σ σ' → Z (some (.int (bb_write a b s).2)) σ')
theorem q_R_write {a : Ab} {b : Bb} {n : Nat} {oo : Nat} {s : Int32} {σ : ra_St} {Z : ra_R} : sp_R_write a b n [.ref oo, .int s] σ Z = (oo = 0 ∧ (rc_I a b n σ ∧ bb_W b ∧ ∀ σ', rc_I a (bb_write a b s).1 (n + 1) σ' → ra_up σ σ' → Z (some (.int (bb_write a b s).2)) σ')) := rfl
def I_R_write (a : Ab) (b : Bb) (n : Nat) (Z : ra_R) (as : List Value) (σ0 : ra_St) (c : Nat) (μ : ra_M) : ra_K := fun L S σ => S = [] ∧ ∃ s m h : Nat, as = [.ref 0, .int (nI s)] ∧ s ≤ 3 ∧ m ≤ 48 ∧ b 3 s = nI m ∧ h ≤ min m (ab_hc a) ∧ b 1 s = 1 ∧ rc_I a (bb_wr a b s h) n σ ∧ ra_up σ0 σ ∧ μ = (48 - h, 0, 0) ∧ L = [.ref 0, .int (nI s), .ref (74 + 2 * s), .int (nI (min m (ab_hc a))), .int (nI h)]
theorem n_min {x y : Nat} (hx : x < 100) (hy : y < 100) : (if nI y < nI x then nI y else nI x) = nI (min x y) := by
  by_cases h : y < x
  · rw [if_pos (by rw [n_lt (by omega) (by omega)]; exact h), show min x y = y by omega]
  · rw [if_neg (by rw [n_lt (by omega) (by omega)]; exact h), show min x y = x by omega]
theorem k_R_write {l : Launch} {X : ra_X} {a : Ab} {b : Bb} {n : Nat} (hn : n < 1000000000) (hW : ab_W a) : ra_MOK l X mi_R_write (sp_R_write a b n) := by
  have h8 := ab_hc_8 a
  refine g_R_write (c2 := fun as σ Z => ∃ b : Bb, True ∧ sp_R_behind a b n 2 as σ Z) (c3 := fun as σ Z => ∃ s : Nat, True ∧ sp_Sh_store s as σ Z) k_R_isNoSheet k_R_find (ra_MOK_ex (fun b _ => k_R_behind hn hW)) (ra_MOK_ex (fun s _ => k_Sh_store)) (sp_R_write a b n) (I_R_write a b n) ?_ ?_
  · intro as σ Z _ _ h
    obtain ⟨s, rfl, hI, hB, hZ⟩ := x_f1 h
    have hC := hI.2.2.2.2.1
    by_cases hy : an_in s 3
    · obtain ⟨s, hs, rfl⟩ := an_in_of hy (by decide)
      have e : bb_write a b (nI s) = if b 1 s = 0 then (bb_u b 5 0 1, -11) else (bb_wr a b s (min (b 3 s).toNatClampNeg (ab_hc a)), nI (min (b 3 s).toNatClampNeg (ab_hc a))) := by
        unfold bb_write
        rw [if_pos hy, n_cl (by omega)]
      rw [e] at hZ
      obtain ⟨t1, t2, t3, t4, t5⟩ := tg_q s (by omega)
      obtain ⟨c1, c2⟩ := hC.2.2 s (by omega)
      obtain ⟨hb, -, m, hm, em⟩ := hB s (by omega)
      rcases hb with q0 | q1
      · rw [if_pos q0] at hZ
        simp (disch := omega) only [b_R_write_80, b_R_write_54, b_R_write_48, b_R_write_24, b_R_write_10, b_R_write_7, b_R_write_0, e_il3, e_al2, e_il4, e_al0, e_il1, e_is3i, e_is3r, e_is3n, e_is4i, e_is4r, e_is4n, e_as2i, e_as2r, e_as2n, e_inc4i, e_inc4r, e_inc4n, e_c, e_b1, e_b2, e_gi, e_gr, e_rld, e_min, e_ir, e_cs1, e_cv4, e_hd, e_cv3, e_cv2, e_c10, e_c1i, e_c1r, e_sh0, e_sh1, e_sh2, e_sh3, e_sh4, e_tls, e_tln, e_tl0, e_tl1, cl_0, cl_1, cl_12, cl_73, ln_73, tg_0_0, tg_0_1, tg_0_8, q_R_isNoSheet, q_R_find, q_R_behind, q_Sh_store, Nat.reduceAdd, true_and, and_true, true_implies, not_true_eq_false, false_implies, not_false_eq_true, imp_self, forall_const, List.append_nil, ra_I, ra_J, ra_pad, true_or, or_true, Nat.reduceEqDiff, ra_bz, eq_self, if_true, if_false, false_and, and_false, Nat.zero_le, List.cons_append, List.nil_append, Nat.reduceLT, Nat.reduceLeDiff, Nat.reduceMul, Nat.reduceSub, n_0, n_1, n_2, n_3, n_4, n_5, n_6, n_7, n_8, n_9, n_10, n_12, n_40, n_48, n_57, n_59, n_72, n_99, n_102, n_103, n_107, n_108, n_192, n_255, n_256, n_999, n_1000, n_104, nI_add, pk_mul, n_cl, n_inT, n_le, n_lt, n_eq, n_m1, n_m1', n_lem1, n_m1le, n_ltm1, n_m1lt, n_lepred, n_shl, fa_or, t1, t2, c1 q0]
        exact ⟨fun q => absurd hy q, fun _ => hZ _ hI.met.1 hI.met.2⟩
      · obtain ⟨d1, d2, d3, d4⟩ := c2 q1
        rw [em] at d3
        have en := n_min (x := m) (y := ab_hc a) (by omega) (by omega)
        simp (disch := omega) only [b_R_write_80, b_R_write_54, b_R_write_48, b_R_write_30, b_R_write_24, b_R_write_10, b_R_write_7, b_R_write_0, e_il3, e_al2, e_il4, e_al0, e_il1, e_is3i, e_is3r, e_is3n, e_is4i, e_is4r, e_is4n, e_as2i, e_as2r, e_as2n, e_inc4i, e_inc4r, e_inc4n, e_c, e_b1, e_b2, e_gi, e_gr, e_rld, e_min, e_ir, e_cs1, e_cv4, e_hd, e_cv3, e_cv2, e_c10, e_c1i, e_c1r, e_sh0, e_sh1, e_sh2, e_sh3, e_sh4, e_tls, e_tln, e_tl0, e_tl1, cl_0, cl_1, cl_12, cl_73, ln_73, tg_0_0, tg_0_1, tg_0_8, q_R_isNoSheet, q_R_find, q_R_behind, q_Sh_store, Nat.reduceAdd, true_and, and_true, true_implies, not_true_eq_false, false_implies, not_false_eq_true, imp_self, forall_const, List.append_nil, ra_I, ra_J, ra_pad, true_or, or_true, Nat.reduceEqDiff, ra_bz, eq_self, if_true, if_false, false_and, and_false, Nat.zero_le, List.cons_append, List.nil_append, Nat.reduceLT, Nat.reduceLeDiff, Nat.reduceMul, Nat.reduceSub, t1, t2, d1, d3, hI.1.2.1.1, en, n_0, n_1, n_cl, n_inT]
        exact ⟨fun q => absurd hy q, fun _ => ⟨_, rfl, s, m, 0, rfl, hs, hm, em, by omega, q1, hI, ra_up.rf, rfl, rfl⟩⟩
    · have e : bb_write a b s = (b, -2) := by
        unfold bb_write
        exact if_neg hy
      rw [e] at hZ
      have h9 := hZ σ (hI.more (by omega)) ra_up.rf
      simp (disch := omega) only [b_R_write_80, b_R_write_54, b_R_write_48, b_R_write_30, b_R_write_24, b_R_write_7, b_R_write_0, e_il3, e_al2, e_il4, e_al0, e_il1, e_is3i, e_is3r, e_is3n, e_is4i, e_is4r, e_is4n, e_as2i, e_as2r, e_as2n, e_inc4i, e_inc4r, e_inc4n, e_c, e_b1, e_b2, e_gi, e_gr, e_rld, e_min, e_ir, e_cs1, e_cv4, e_hd, e_cv3, e_cv2, e_c10, e_c1i, e_c1r, e_sh0, e_sh1, e_sh2, e_sh3, e_sh4, e_tls, e_tln, e_tl0, e_tl1, cl_0, cl_1, cl_12, cl_73, ln_73, tg_0_0, tg_0_1, tg_0_8, q_R_isNoSheet, q_R_find, q_R_behind, q_Sh_store, Nat.reduceAdd, true_and, and_true, true_implies, not_true_eq_false, false_implies, not_false_eq_true, imp_self, forall_const, List.append_nil, ra_I, ra_J, ra_pad, true_or, or_true, Nat.reduceEqDiff, ra_bz, eq_self, if_true, if_false, false_and, and_false, Nat.zero_le, List.cons_append, List.nil_append, Nat.reduceLT, Nat.reduceLeDiff, Nat.reduceMul, Nat.reduceSub, n_0, n_1, n_2, n_3, n_4, n_5, n_6, n_7, n_8, n_9, n_10, n_12, n_40, n_48, n_57, n_59, n_72, n_99, n_102, n_103, n_107, n_108, n_192, n_255, n_256, n_999, n_1000, n_104, nI_add, pk_mul, n_cl, n_inT, n_le, n_lt, n_eq, n_m1, n_m1', n_lem1, n_m1le, n_ltm1, n_m1lt, n_lepred, n_shl, fa_or]
      exact ⟨fun _ => h9, fun q => absurd (Classical.not_not.mp q) hy⟩
  · intro as σ0 Z h0 μ L S σ hI
    obtain ⟨rfl, s, m, h, rfl, hs, hm, em, hh, h1, hI, hu, rfl, rfl⟩ := hI
    obtain ⟨_, e, -, hB, hZ⟩ := x_f1 h0
    cases e
    have e : bb_write a b (nI s) = (bb_wr a b s (min (b 3 s).toNatClampNeg (ab_hc a)), nI (min (b 3 s).toNatClampNeg (ab_hc a))) := by
      unfold bb_write
      rw [if_pos (an_in_nI hs (by decide)), n_cl (by omega), if_neg (by rw [h1]; decide)]
    rw [e, em, n_cl (by omega)] at hZ
    obtain ⟨t1, t2, t3, t4, t5⟩ := tg_q s (by omega)
    by_cases hlt : h < min m (ab_hc a)
    · have e2 := an_b_2 hW (show h < ab_hc a by omega)
      simp (disch := omega) only [b_R_write_54, b_R_write_48, b_R_write_30, b_R_write_24, b_R_write_10, b_R_write_7, b_R_write_0, e_il3, e_al2, e_il4, e_al0, e_il1, e_is3i, e_is3r, e_is3n, e_is4i, e_is4r, e_is4n, e_as2i, e_as2r, e_as2n, e_inc4i, e_inc4r, e_inc4n, e_c, e_b1, e_b2, e_gi, e_gr, e_rld, e_min, e_ir, e_cs1, e_cv4, e_hd, e_cv3, e_cv2, e_c10, e_c1i, e_c1r, e_sh0, e_sh1, e_sh2, e_sh3, e_sh4, e_tls, e_tln, e_tl0, e_tl1, cl_0, cl_1, cl_12, cl_73, ln_73, tg_0_0, tg_0_1, tg_0_8, q_R_isNoSheet, q_R_find, q_R_behind, q_Sh_store, Nat.reduceAdd, true_and, and_true, true_implies, not_true_eq_false, false_implies, not_false_eq_true, imp_self, forall_const, List.append_nil, ra_I, ra_J, ra_pad, true_or, or_true, Nat.reduceEqDiff, ra_bz, eq_self, if_true, if_false, false_and, and_false, Nat.zero_le, List.cons_append, List.nil_append, Nat.reduceLT, Nat.reduceLeDiff, Nat.reduceMul, Nat.reduceSub, n_0, n_1, n_2, n_3, n_4, n_5, n_6, n_7, n_8, n_9, n_10, n_12, n_40, n_48, n_57, n_59, n_72, n_99, n_102, n_103, n_107, n_108, n_192, n_255, n_256, n_999, n_1000, n_104, nI_add, pk_mul, n_cl, n_inT, n_le, n_lt, n_eq, n_m1, n_m1', n_lem1, n_m1le, n_ltm1, n_m1lt, n_lepred, n_shl, fa_or, t2, hI.2.1.1, q_R_behind, q_Sh_store, e2]
      refine ⟨fun q => by omega, fun _ => ⟨bb_wr a b s h, hI, fun σ1 g1 g2 => ⟨s, rfl, by omega, (48 - (h + 1), 0, 0), lx1 (by omega), rfl, s, m, h + 1, rfl, hs, hm, em, by omega, h1, ?_, ?_, rfl, rfl⟩⟩⟩
      · have hB2 : bb_W (bb_wr a b s h) := bb_W_of hB (fun p q hp => bb_wr_o h p q hp)
        have e9 := ((g1.2.2.2.2.1.2.2 s (by omega)).2 (by rw [bb_wr_o _ _ _ (by decide)]; exact h1)).2.1
        rw [bb_wr_o _ _ _ (by decide)] at e9
        rw [e9]
        exact g1.oth0 (g1.2.2.2.2.1.item hB2 (by omega) (by omega)) (ra_fs.rf.sw (Or.inl (by simp; omega)))
      · refine hu.tr (g2.tr ?_)
        intro c hc
        exact ra_su_ne _ _ (by omega)
    · simp (disch := omega) only [b_R_write_80, b_R_write_48, b_R_write_30, b_R_write_24, b_R_write_10, b_R_write_7, b_R_write_0, e_il3, e_al2, e_il4, e_al0, e_il1, e_is3i, e_is3r, e_is3n, e_is4i, e_is4r, e_is4n, e_as2i, e_as2r, e_as2n, e_inc4i, e_inc4r, e_inc4n, e_c, e_b1, e_b2, e_gi, e_gr, e_rld, e_min, e_ir, e_cs1, e_cv4, e_hd, e_cv3, e_cv2, e_c10, e_c1i, e_c1r, e_sh0, e_sh1, e_sh2, e_sh3, e_sh4, e_tls, e_tln, e_tl0, e_tl1, cl_0, cl_1, cl_12, cl_73, ln_73, tg_0_0, tg_0_1, tg_0_8, q_R_isNoSheet, q_R_find, q_R_behind, q_Sh_store, Nat.reduceAdd, true_and, and_true, true_implies, not_true_eq_false, false_implies, not_false_eq_true, imp_self, forall_const, List.append_nil, ra_I, ra_J, ra_pad, true_or, or_true, Nat.reduceEqDiff, ra_bz, eq_self, if_true, if_false, false_and, and_false, Nat.zero_le, List.cons_append, List.nil_append, Nat.reduceLT, Nat.reduceLeDiff, Nat.reduceMul, Nat.reduceSub, n_0, n_1, n_2, n_3, n_4, n_5, n_6, n_7, n_8, n_9, n_10, n_12, n_40, n_48, n_57, n_59, n_72, n_99, n_102, n_103, n_107, n_108, n_192, n_255, n_256, n_999, n_1000, n_104, nI_add, pk_mul, n_cl, n_inT, n_le, n_lt, n_eq, n_m1, n_m1', n_lem1, n_m1le, n_ltm1, n_m1lt, n_lepred, n_shl, fa_or]
      refine ⟨fun _ => ?_, fun q => by omega⟩
      rw [show h = min m (ab_hc a) by omega] at hI
      exact hZ σ (hI.more (by omega)) hu
