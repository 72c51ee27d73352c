/-! counts and the digest -/
noncomputable def rg_done (a : Ab) : Nat → Nat
  | 0 => 0
  | h + 1 => rg_done a h ||| ab_ring a h
noncomputable def rg_cnt (a : Ab) : Nat → Nat
  | 0 => 0
  | h + 1 => rg_cnt a h + (if (rg_done a h).testBit h = true then 0 else 1)
theorem rg_cnt_le (a : Ab) : ∀ h, rg_cnt a h ≤ h
  | 0 => Nat.le_refl _
  | h + 1 => by
    have := rg_cnt_le a h
    rw [rg_cnt]
    split <;> omega
theorem rg_done_lt {a : Ab} : ∀ h, h ≤ ab_hc a → rg_done a h < 256
  | 0, _ => by rw [rg_done]; omega
  | h + 1, hh => by
    rw [rg_done]
    exact Nat.or_lt_two_pow (n := 8) (rg_done_lt h (by omega)) (ab_ring_lt (by omega))
def sp_N_sumOf (a : Ab) : ra_Sp := ra_f1 82 (fun w σ Z => rn_R a σ ∧ ∀ σ', rn_P a σ' → ra_fr rn_scr σ σ' → Z (some (.int (if w = 0 then nI (ab_hc a) else nI (rg_cnt a (ab_hc a))))) σ')
theorem q_N_sumOf {a : Ab} {oo : Nat} {w : Int32} {σ : ra_St} {Z : ra_R} : sp_N_sumOf a [.ref oo, .int w] σ Z = (oo = 82 ∧ (rn_R a σ ∧ ∀ σ', rn_P a σ' → ra_fr rn_scr σ σ' → Z (some (.int (if w = 0 then nI (ab_hc a) else nI (rg_cnt a (ab_hc a))))) σ')) := rfl
def I_N_sumOf (a : Ab) (Z : ra_R) (as : List Value) (σ0 : ra_St) (t : Nat) (μ : ra_M) : ra_K := fun L S σ => S = [] ∧ ∃ (w : Int32) (h : Nat), as = [.ref 82, .int w] ∧ h ≤ ab_hc a ∧ rn_R a σ ∧ rn_P a σ ∧ ra_fr rn_scr σ0 σ ∧ μ = (ab_hc a - h, 0, 0) ∧ L = [.ref 82, .int w, .int (nI (rg_done a h)), .int (nI (rg_cnt a h)), .int (nI h)]
theorem k_N_sumOf {l : Launch} {X : ra_X} {a : Ab} (hW : ab_W a) : ra_MOK l X mi_N_sumOf (sp_N_sumOf a) := by
  have h8 := ab_hc_8 a
  refine g_N_sumOf (k_N_reads hW) k_N_isIn (k_N_ringOf (a := a)) (sp_N_sumOf a) (I_N_sumOf a) ?_ ?_
  · intro as σ Z _ _ h
    obtain ⟨w, rfl, hR, hZ⟩ := x_f1 h
    simp (disch := omega) only [b_N_sumOf_64, b_N_sumOf_63, b_N_sumOf_56, b_N_sumOf_52, b_N_sumOf_35, b_N_sumOf_34, b_N_sumOf_30, b_N_sumOf_20, b_N_sumOf_11, b_N_sumOf_0, e_il3, e_al0, e_il1, e_il2, e_il4, e_is3i, e_is3r, e_is3n, e_is2i, e_is2r, e_is2n, e_is4i, e_is4r, e_is4n, e_inc4i, e_inc4r, e_inc4n, e_c, e_i2, e_b1, e_b2, e_gi, e_ir, e_cs2, e_cv2, e_hd, e_cv1, e_c10, e_c1i, e_c1r, e_sh0, e_sh1, e_sh2, e_sh3, e_sh4, e_tls, e_tln, e_tl0, e_tl1, cl_82, q_N_reads, q_N_isIn, q_N_ringOf, Nat.reduceAdd, true_and, and_true, true_implies, not_true_eq_false, false_implies, not_false_eq_true, imp_self, forall_const, List.append_nil, ra_I, ra_J, ra_pad, true_or, or_true, Nat.reduceEqDiff, ra_bz, eq_self, if_true, if_false, false_and, and_false, Nat.zero_le, List.cons_append, List.nil_append, Nat.reduceLT, Nat.reduceLeDiff, Nat.reduceMul, Nat.reduceSub, n_0, n_1, n_2, n_3, n_4, n_5, n_6, n_7, n_8, n_9, n_10, n_12, n_40, n_48, n_57, n_59, n_72, n_99, n_102, n_103, n_107, n_108, n_192, n_255, n_256, n_999, n_1000, n_104, nI_add, pk_mul, n_cl, n_inT, n_le, n_lt, n_eq, n_m1, n_m1', n_lem1, n_m1le, n_ltm1, n_m1lt, n_lepred, n_shl, fa_or]
    exact ⟨hR.1, fun σ1 hP hf => ⟨_, rfl, w, 0, rfl, by omega, hR.fr hf (by decide), hP, hf.mono (by decide), rfl, rfl⟩⟩
  · intro as σ0 Z h0 μ L S σ hI
    obtain ⟨rfl, w, h, rfl, hh, hR, hP, hf, rfl, rfl⟩ := hI
    obtain ⟨_, e, hR0, hZ⟩ := x_f1 h0
    cases e
    have b1 := rg_done_lt h hh
    have b2 := rg_cnt_le a h
    by_cases hlt : h < ab_hc a
    · have b3 := ab_ring_lt hlt
      simp (disch := omega) only [b_N_sumOf_64, b_N_sumOf_63, b_N_sumOf_56, b_N_sumOf_35, b_N_sumOf_34, b_N_sumOf_30, b_N_sumOf_20, b_N_sumOf_11, b_N_sumOf_0, e_il3, e_al0, e_il1, e_il2, e_il4, e_is3i, e_is3r, e_is3n, e_is2i, e_is2r, e_is2n, e_is4i, e_is4r, e_is4n, e_inc4i, e_inc4r, e_inc4n, e_c, e_i2, e_b1, e_b2, e_gi, e_ir, e_cs2, e_cv2, e_hd, e_cv1, e_c10, e_c1i, e_c1r, e_sh0, e_sh1, e_sh2, e_sh3, e_sh4, e_tls, e_tln, e_tl0, e_tl1, cl_82, q_N_reads, q_N_isIn, q_N_ringOf, Nat.reduceAdd, true_and, and_true, true_implies, not_true_eq_false, false_implies, not_false_eq_true, imp_self, forall_const, List.append_nil, ra_I, ra_J, ra_pad, true_or, or_true, Nat.reduceEqDiff, ra_bz, eq_self, if_true, if_false, false_and, and_false, Nat.zero_le, List.cons_append, List.nil_append, Nat.reduceLT, Nat.reduceLeDiff, Nat.reduceMul, Nat.reduceSub, n_0, n_1, n_2, n_3, n_4, n_5, n_6, n_7, n_8, n_9, n_10, n_12, n_40, n_48, n_57, n_59, n_72, n_99, n_102, n_103, n_107, n_108, n_192, n_255, n_256, n_999, n_1000, n_104, nI_add, pk_mul, n_cl, n_inT, n_le, n_lt, n_eq, n_m1, n_m1', n_lem1, n_m1le, n_ltm1, n_m1lt, n_lepred, n_shl, fa_or, hP.1.1]
      have go : ∀ y : Nat, y = rg_cnt a (h + 1) → ∃ μ', ra_lx μ' (ab_hc a - h, 0, 0) ∧ I_N_sumOf a Z [.ref 82, .int w] σ0 11 μ' [.ref 82, .int w, .int (nI (rg_done a h ||| ab_ring a h)), .int (nI y), .int (nI (h + 1))] [] σ := by
        intro y hy
        rw [hy]
        exact ⟨(ab_hc a - (h + 1), 0, 0), lx1 (by omega), rfl, w, h + 1, rfl, by omega, hR, hP, hf, rfl, rfl⟩
      refine ⟨fun q => by omega, fun _ => ⟨fun q => ⟨hP, an_hs_nI hlt, go _ ?_⟩, fun q => ⟨hP, an_hs_nI hlt, go _ ?_⟩⟩⟩
      · rw [rg_cnt, if_pos q]
      · rw [rg_cnt, if_neg q]
    · simp (disch := omega) only [b_N_sumOf_64, b_N_sumOf_63, b_N_sumOf_56, b_N_sumOf_52, b_N_sumOf_35, b_N_sumOf_34, b_N_sumOf_30, b_N_sumOf_11, b_N_sumOf_0, e_il3, e_al0, e_il1, e_il2, e_il4, e_is3i, e_is3r, e_is3n, e_is2i, e_is2r, e_is2n, e_is4i, e_is4r, e_is4n, e_inc4i, e_inc4r, e_inc4n, e_c, e_i2, e_b1, e_b2, e_gi, e_ir, e_cs2, e_cv2, e_hd, e_cv1, e_c10, e_c1i, e_c1r, e_sh0, e_sh1, e_sh2, e_sh3, e_sh4, e_tls, e_tln, e_tl0, e_tl1, cl_82, q_N_reads, q_N_isIn, q_N_ringOf, Nat.reduceAdd, true_and, and_true, true_implies, not_true_eq_false, false_implies, not_false_eq_true, imp_self, forall_const, List.append_nil, ra_I, ra_J, ra_pad, true_or, or_true, Nat.reduceEqDiff, ra_bz, eq_self, if_true, if_false, false_and, and_false, Nat.zero_le, List.cons_append, List.nil_append, Nat.reduceLT, Nat.reduceLeDiff, Nat.reduceMul, Nat.reduceSub, n_0, n_1, n_2, n_3, n_4, n_5, n_6, n_7, n_8, n_9, n_10, n_12, n_40, n_48, n_57, n_59, n_72, n_99, n_102, n_103, n_107, n_108, n_192, n_255, n_256, n_999, n_1000, n_104, nI_add, pk_mul, n_cl, n_inT, n_le, n_lt, n_eq, n_m1, n_m1', n_lem1, n_m1le, n_ltm1, n_m1lt, n_lepred, n_shl, fa_or, hP.1.1]
      have h9 := hZ σ hP hf
      refine ⟨fun q => ⟨fun q2 => ?_, fun q2 => ?_⟩, fun q => by omega⟩
      · rw [if_pos (show w = 0 from q2)] at h9
        exact h9
      · rw [if_neg (show ¬ w = 0 from q2), show ab_hc a = h by omega] at h9
        exact h9
noncomputable def an_count (a : Ab) (b : Bb) (x : Int32) : Int32 := if x = 0 then nI (ab_hc a) else if x = 1 then nI (a 0 0) else if x = 2 then nI (a 0 1) else if x = 3 then nI (a 3 0) else if x = 4 then nI (rg_cnt a (ab_hc a)) else if x = 5 then nI (a 7 0) else if x = 6 then nI (a 5 0) else if x = 7 then nI (a 5 1) else if x = 8 then b 5 0 else -2
def sp_N_count (a : Ab) (b : Bb) : ra_Sp := ra_f1 82 (fun x σ Z => rn_A a b σ ∧ ∀ σ', ra_fr rn_scr σ σ' → Z (some (.int (an_count a b x))) σ')
theorem q_N_count {a : Ab} {b : Bb} {oo : Nat} {x : Int32} {σ : ra_St} {Z : ra_R} : sp_N_count a b [.ref oo, .int x] σ Z = (oo = 82 ∧ (rn_A a b σ ∧ ∀ σ', ra_fr rn_scr σ σ' → Z (some (.int (an_count a b x))) σ')) := rfl
theorem k_N_count {l : Launch} {X : ra_X} {a : Ab} {b : Bb} (hW : ab_W a) : ra_MOK l X mi_N_count (sp_N_count a b) := by
  refine g_N_count (k_N_sumOf hW) (sp_N_count a b) ?_
  intro as σ Z _ _ h
  obtain ⟨x, rfl, hA, hZ⟩ := x_f1 h
  have h9 := hZ σ ra_fr.rf
  unfold an_count at hZ h9
  obtain ⟨⟨g1, g2, -⟩, g5, g6, g7, g8, g9, g10, g11⟩ := hA.1
  have g12 := hA.2.2.2.2
  simp (disch := omega) only [b_N_count_92, b_N_count_87, b_N_count_77, b_N_count_72, b_N_count_67, b_N_count_58, b_N_count_52, b_N_count_0, e_al0, e_il1, e_c, e_i2, e_gi, e_gr, e_ald, e_ir, e_sw, e_go0, e_go1, List.map_cons, List.map_nil, e_cv2, e_hd, e_c10, e_c1i, e_c1r, e_sh0, e_sh1, e_sh2, e_sh3, e_sh4, e_tls, e_tln, e_tl0, e_tl1, cl_82, cl_83, ln_83, cl_90, ln_90, tg_82_0, tg_82_9, q_N_sumOf, Nat.reduceAdd, true_and, and_true, true_implies, not_true_eq_false, false_implies, not_false_eq_true, imp_self, forall_const, List.append_nil, ra_I, ra_J, ra_pad, true_or, or_true, Nat.reduceEqDiff, ra_bz, eq_self, if_true, if_false, false_and, and_false, Nat.zero_le, List.cons_append, List.nil_append, Nat.reduceLT, Nat.reduceLeDiff, Nat.reduceMul, Nat.reduceSub, n_0, n_1, n_2, n_3, n_4, n_5, n_6, n_7, n_8, n_9, n_10, n_12, n_40, n_48, n_57, n_59, n_72, n_99, n_102, n_103, n_107, n_108, n_192, n_255, n_256, n_999, n_1000, n_104, nI_add, pk_mul, n_cl, n_inT, n_le, n_lt, n_eq, n_m1, n_m1', n_lem1, n_m1le, n_ltm1, n_m1lt, n_lepred, n_shl, fa_or]
  refine ⟨fun q => ⟨hA.1, fun σ' k1 k2 => ?_⟩, fun q0 => ⟨fun q => ?_, fun q1 => ⟨fun q => ?_, fun q2 => ⟨fun q => ?_, fun q3 => ⟨fun q => ⟨hA.1, fun σ' k1 k2 => ?_⟩, fun q4 => ⟨fun q => ?_, fun q5 => ⟨fun q => ?_, fun q6 => ⟨fun q => ?_, fun q7 => ⟨fun q => ?_, fun q8 => ?_⟩⟩⟩⟩⟩⟩⟩⟩⟩
  · have h10 := hZ σ' k2
    subst q
    exact h10
  · subst q
    exact ⟨vi (a := 0) (by decide) (by decide), by rw [show (nI 1 - nI 1).toNatClampNeg = 0 by decide, g1]; exact h9⟩
  · subst q
    exact ⟨vi (a := 1) (by decide) (by decide), by rw [show (nI 2 - nI 1).toNatClampNeg = 1 by decide, g2]; exact h9⟩
  · subst q
    rw [g5]; exact h9
  · have h10 := hZ σ' k2
    subst q
    exact h10
  · subst q
    rw [g10]; exact h9
  · subst q
    exact ⟨vi (a := 0) (by decide) (by decide), by rw [show (nI 6 - nI 6).toNatClampNeg = 0 by decide, g7]; exact h9⟩
  · subst q
    exact ⟨vi (a := 1) (by decide) (by decide), by rw [show (nI 7 - nI 6).toNatClampNeg = 1 by decide, g8]; exact h9⟩
  · subst q
    rw [g12]; exact h9
  · rw [if_neg (show ¬ x = 0 from q0), if_neg (show ¬ x = 1 from q1), if_neg (show ¬ x = 2 from q2), if_neg (show ¬ x = 3 from q3), if_neg (show ¬ x = 4 from q4), if_neg (show ¬ x = 5 from q5), if_neg (show ¬ x = 6 from q6), if_neg (show ¬ x = 7 from q7), if_neg (show ¬ x = 8 from q8)] at h9
    exact h9
def dg (h : Int64) (x : Int32) : Int64 := 31 * h + x.toInt64
theorem dg_e (h : Int64) (x : Int32) : 31 * h + x.toInt64 = dg h x := rfl
noncomputable def dgc (a : Ab) (b : Bb) : Nat → Int64
  | 0 => 17
  | w + 1 => dg (dgc a b w) (an_count a b (nI w))
noncomputable def dgh (a : Ab) (k : Nat) (h : Int64) : Nat → Int64
  | 0 => h
  | w + 1 => dg (dgh a k h w) (nI (an_hw a k w))
noncomputable def dgb (a : Ab) (k : Nat) (h : Int64) : Nat → Int64
  | 0 => h
  | w + 1 => dg (dgb a k h w) (nI (sm_g (sm a (ab_te a) (a 3 0)) w k))
noncomputable def dgr (a : Ab) (k : Nat) (h : Int64) : Int64 := dg (dg (dg (dg (dg (dg (dg (dg h (nI (ab_ring a k))) (nI (n_pop (ab_ring a k)))) (an_dr a k 3 (nI 0))) (an_dr a k 3 (nI 1))) (an_mk a (nI k))) (an_be a (nI k))) (an_co a (nI k))) (an_hd a (nI 9) (nI k))
noncomputable def dgk (a : Ab) (b : Bb) : Nat → Int64
  | 0 => dg (dg (dgc a b 8) (ab_hf a)) (ab_lf a)
  | k + 1 => dgr a k (dgb a k (dgh a k (dgk a b k) 5) 4)
noncomputable def dgl (a : Ab) (b : Bb) : Nat → Int64
  | 0 => dgk a b (ab_hc a)
  | w + 1 => dg (dgl a b w) (nI (fb_sm (fun h => sm_g (sm a (ab_te a) (a 3 0)) w h) (ab_hc a)))
noncomputable def an_digest (a : Ab) (b : Bb) : Int64 := dg (dg (dg (dg (dg (dg (dg (dg (dgl a b 4) (an_mk a (-nI 1))) (an_mk a (-nI 2))) (an_be a (-nI 1))) (an_co a (-nI 1))) (an_as a (nI 0))) (an_as a (nI 1))) (an_hd a (nI 9) (-nI 1))) (nI (li a b (ab_hc a)))
def sp_N_digest (a : Ab) (b : Bb) : ra_Sp := ra_f0 82 (fun σ Z => rn_A a b σ ∧ ∀ σ', ra_fr rn_scr σ σ' → Z (some (.long (an_digest a b))) σ')
theorem q_N_digest {a : Ab} {b : Bb} {oo : Nat} {σ : ra_St} {Z : ra_R} : sp_N_digest a b [.ref oo] σ Z = (oo = 82 ∧ (rn_A a b σ ∧ ∀ σ', ra_fr rn_scr σ σ' → Z (some (.long (an_digest a b))) σ')) := rfl
def I_N_digest (a : Ab) (b : Bb) (Z : ra_R) (as : List Value) (σ0 : ra_St) (t : Nat) (μ : ra_M) : ra_K := fun L S σ => S = [] ∧ as = [.ref 82] ∧ ∃ (k w : Nat) (u : Value), rn_A a b σ ∧ ra_fr rn_scr σ0 σ ∧
  match t with
  | 6 => w ≤ 8 ∧ μ = (40 - w, 0, 0) ∧ L = [.ref 82, .long (dgc a b w), .null, .int (nI w), u]
  | 59 => rn_P a σ ∧ k ≤ ab_hc a ∧ μ = (30 - k, 0, 0) ∧ L = [.ref 82, .long (dgk a b k), .null, .int (nI k), u]
  | 70 => rn_P a σ ∧ k < ab_hc a ∧ w ≤ 5 ∧ μ = (30 - (k + 1), 1, 10 - w) ∧ L = [.ref 82, .long (dgh a k (dgk a b k) w), .null, .int (nI k), .int (nI w)]
  | 100 => rn_P a σ ∧ k < ab_hc a ∧ w ≤ 4 ∧ μ = (30 - (k + 1), 0, 10 - w) ∧ L = [.ref 82, .long (dgb a k (dgh a k (dgk a b k) 5) w), .null, .int (nI k), .int (nI w)]
  | _ => rn_P a σ ∧ w ≤ 4 ∧ μ = (10 - w, 0, 0) ∧ L = [.ref 82, .long (dgl a b w), .null, .int (nI w), u]
theorem k_N_digest {l : Launch} {X : ra_X} {a : Ab} {b : Bb} (hW : ab_W a) : ra_MOK l X mi_N_digest (sp_N_digest a b) := by
  have h8 := ab_hc_8 a
  have hr12 := hW.2.2.2.2.1
  refine g_N_digest (k_N_count (b := b) hW) (k_N_faultOf hW) (k_N_houseOf (a := a)) (k_N_behind hW) (k_N_ringOf (a := a)) k_N_ones (k_N_dryOf hW) (k_N_marketOf hW) (k_N_bestOf hW) (k_N_couldOf hW) (k_N_handsOf hW) (k_N_allOf hW) (k_N_askOf hW) (k_N_liarsNow (b := b) hW) (sp_N_digest a b) (I_N_digest a b) ?_ ?_ ?_ ?_ ?_ ?_
  · intro as σ Z _ _ h
    obtain ⟨rfl, hA, hZ⟩ := x_f0 h
    simp (disch := omega) only [b_N_digest_280, b_N_digest_257, b_N_digest_252, b_N_digest_250, b_N_digest_131, b_N_digest_106, b_N_digest_100, b_N_digest_97, b_N_digest_76, b_N_digest_70, b_N_digest_67, b_N_digest_59, b_N_digest_31, b_N_digest_12, b_N_digest_6, b_N_digest_0, e_ll1, e_al0, e_il3, e_il4, e_is3i, e_is3r, e_is3n, e_is4i, e_is4r, e_is4n, e_inc3i, e_inc3r, e_inc3n, e_inc4i, e_inc4r, e_inc4n, e_ls1, e_c, e_cl, e_i2l, e_l2, e_b2, e_gi, e_lr, e_cs1, e_cv2, e_hd, e_cv3, e_cv1, e_cv4, e_c10, e_c1i, e_c1r, e_sh0, e_sh1, e_sh2, e_sh3, e_sh4, e_tls, e_tln, e_tl0, e_tl1, cl_82, q_N_count, q_N_faultOf, q_N_houseOf, q_N_behind, q_N_ringOf, q_N_ones, q_N_dryOf, q_N_marketOf, q_N_bestOf, q_N_couldOf, q_N_handsOf, q_N_allOf, q_N_askOf, q_N_liarsNow, Nat.reduceAdd, true_and, and_true, true_implies, not_true_eq_false, false_implies, not_false_eq_true, imp_self, forall_const, List.append_nil, ra_I, ra_J, ra_pad, true_or, or_true, Nat.reduceEqDiff, ra_bz, eq_self, if_true, if_false, false_and, and_false, Nat.zero_le, List.cons_append, List.nil_append, Nat.reduceLT, Nat.reduceLeDiff, Nat.reduceMul, Nat.reduceSub, n_0, n_1, n_2, n_3, n_4, n_5, n_6, n_7, n_8, n_9, n_10, n_12, n_40, n_48, n_57, n_59, n_72, n_99, n_102, n_103, n_107, n_108, n_192, n_255, n_256, n_999, n_1000, n_104, nI_add, pk_mul, n_cl, n_inT, n_le, n_lt, n_eq, n_m1, n_m1', n_lem1, n_m1le, n_ltm1, n_m1lt, n_lepred, n_shl, fa_or]
    exact ⟨_, rfl, rfl, 0, 0, _, hA, ra_fr.rf, by omega, rfl, rfl⟩
  · intro as σ0 Z h0 μ L S σ hI
    obtain ⟨rfl, rfl, k, w, u, hA, hf, hw, rfl, rfl⟩ := hI
    by_cases hlt : w < 8
    · simp (disch := omega) only [b_N_digest_280, b_N_digest_257, b_N_digest_252, b_N_digest_250, b_N_digest_131, b_N_digest_106, b_N_digest_100, b_N_digest_97, b_N_digest_76, b_N_digest_70, b_N_digest_67, b_N_digest_59, b_N_digest_12, b_N_digest_6, b_N_digest_0, e_ll1, e_al0, e_il3, e_il4, e_is3i, e_is3r, e_is3n, e_is4i, e_is4r, e_is4n, e_inc3i, e_inc3r, e_inc3n, e_inc4i, e_inc4r, e_inc4n, e_ls1, e_c, e_cl, e_i2l, e_l2, e_b2, e_gi, e_lr, e_cs1, e_cv2, e_hd, e_cv3, e_cv1, e_cv4, e_c10, e_c1i, e_c1r, e_sh0, e_sh1, e_sh2, e_sh3, e_sh4, e_tls, e_tln, e_tl0, e_tl1, cl_82, q_N_count, q_N_faultOf, q_N_houseOf, q_N_behind, q_N_ringOf, q_N_ones, q_N_dryOf, q_N_marketOf, q_N_bestOf, q_N_couldOf, q_N_handsOf, q_N_allOf, q_N_askOf, q_N_liarsNow, Nat.reduceAdd, true_and, and_true, true_implies, not_true_eq_false, false_implies, not_false_eq_true, imp_self, forall_const, List.append_nil, ra_I, ra_J, ra_pad, true_or, or_true, Nat.reduceEqDiff, ra_bz, eq_self, if_true, if_false, false_and, and_false, Nat.zero_le, List.cons_append, List.nil_append, Nat.reduceLT, Nat.reduceLeDiff, Nat.reduceMul, Nat.reduceSub, n_0, n_1, n_2, n_3, n_4, n_5, n_6, n_7, n_8, n_9, n_10, n_12, n_40, n_48, n_57, n_59, n_72, n_99, n_102, n_103, n_107, n_108, n_192, n_255, n_256, n_999, n_1000, n_104, nI_add, pk_mul, n_cl, n_inT, n_le, n_lt, n_eq, n_m1, n_m1', n_lem1, n_m1le, n_ltm1, n_m1lt, n_lepred, n_shl, fa_or, dg_e]
      refine ⟨fun q => by omega, fun _ => ⟨hA, fun σ1 g => ⟨(40 - (w + 1), 0, 0), lx1 (by omega), rfl, rfl, 0, w + 1, u, hA.fr g (by decide), hf.tr g (by decide), by omega, rfl, rfl⟩⟩⟩
    · have e : w = 8 := by omega
      subst e
      simp (disch := omega) only [b_N_digest_280, b_N_digest_257, b_N_digest_252, b_N_digest_250, b_N_digest_131, b_N_digest_106, b_N_digest_100, b_N_digest_97, b_N_digest_76, b_N_digest_70, b_N_digest_67, b_N_digest_59, b_N_digest_31, b_N_digest_6, b_N_digest_0, e_ll1, e_al0, e_il3, e_il4, e_is3i, e_is3r, e_is3n, e_is4i, e_is4r, e_is4n, e_inc3i, e_inc3r, e_inc3n, e_inc4i, e_inc4r, e_inc4n, e_ls1, e_c, e_cl, e_i2l, e_l2, e_b2, e_gi, e_lr, e_cs1, e_cv2, e_hd, e_cv3, e_cv1, e_cv4, e_c10, e_c1i, e_c1r, e_sh0, e_sh1, e_sh2, e_sh3, e_sh4, e_tls, e_tln, e_tl0, e_tl1, cl_82, q_N_count, q_N_faultOf, q_N_houseOf, q_N_behind, q_N_ringOf, q_N_ones, q_N_dryOf, q_N_marketOf, q_N_bestOf, q_N_couldOf, q_N_handsOf, q_N_allOf, q_N_askOf, q_N_liarsNow, Nat.reduceAdd, true_and, and_true, true_implies, not_true_eq_false, false_implies, not_false_eq_true, imp_self, forall_const, List.append_nil, ra_I, ra_J, ra_pad, true_or, or_true, Nat.reduceEqDiff, ra_bz, eq_self, if_true, if_false, false_and, and_false, Nat.zero_le, List.cons_append, List.nil_append, Nat.reduceLT, Nat.reduceLeDiff, Nat.reduceMul, Nat.reduceSub, n_0, n_1, n_2, n_3, n_4, n_5, n_6, n_7, n_8, n_9, n_10, n_12, n_40, n_48, n_57, n_59, n_72, n_99, n_102, n_103, n_107, n_108, n_192, n_255, n_256, n_999, n_1000, n_104, nI_add, pk_mul, n_cl, n_inT, n_le, n_lt, n_eq, n_m1, n_m1', n_lem1, n_m1le, n_ltm1, n_m1lt, n_lepred, n_shl, fa_or, dg_e]
      refine ⟨hA.1.1, fun σ1 p1 g1 => ?_⟩
      have hA := hA.fr g1 (by decide)
      have hf := hf.tr g1 (by decide)
      refine ⟨hA.1.1, fun σ1 p1 g1 => ?_⟩
      have hA := hA.fr g1 (by decide)
      have hf := hf.tr g1 (by decide)
      exact ⟨(30 - 0, 0, 0), lx1 (by decide), rfl, rfl, 0, 0, u, hA, hf, p1, by omega, rfl, rfl⟩
  · intro as σ0 Z h0 μ L S σ hI
    obtain ⟨rfl, rfl, k, w, u, hA, hf, hP, hk, rfl, rfl⟩ := hI
    simp (disch := omega) only [b_N_digest_280, b_N_digest_257, b_N_digest_252, b_N_digest_250, b_N_digest_131, b_N_digest_106, b_N_digest_100, b_N_digest_97, b_N_digest_76, b_N_digest_70, b_N_digest_67, b_N_digest_59, b_N_digest_31, b_N_digest_12, b_N_digest_6, b_N_digest_0, e_ll1, e_al0, e_il3, e_il4, e_is3i, e_is3r, e_is3n, e_is4i, e_is4r, e_is4n, e_inc3i, e_inc3r, e_inc3n, e_inc4i, e_inc4r, e_inc4n, e_ls1, e_c, e_cl, e_i2l, e_l2, e_b2, e_gi, e_lr, e_cs1, e_cv2, e_hd, e_cv3, e_cv1, e_cv4, e_c10, e_c1i, e_c1r, e_sh0, e_sh1, e_sh2, e_sh3, e_sh4, e_tls, e_tln, e_tl0, e_tl1, cl_82, q_N_count, q_N_faultOf, q_N_houseOf, q_N_behind, q_N_ringOf, q_N_ones, q_N_dryOf, q_N_marketOf, q_N_bestOf, q_N_couldOf, q_N_handsOf, q_N_allOf, q_N_askOf, q_N_liarsNow, Nat.reduceAdd, true_and, and_true, true_implies, not_true_eq_false, false_implies, not_false_eq_true, imp_self, forall_const, List.append_nil, ra_I, ra_J, ra_pad, true_or, or_true, Nat.reduceEqDiff, ra_bz, eq_self, if_true, if_false, false_and, and_false, Nat.zero_le, List.cons_append, List.nil_append, Nat.reduceLT, Nat.reduceLeDiff, Nat.reduceMul, Nat.reduceSub, n_0, n_1, n_2, n_3, n_4, n_5, n_6, n_7, n_8, n_9, n_10, n_12, n_40, n_48, n_57, n_59, n_72, n_99, n_102, n_103, n_107, n_108, n_192, n_255, n_256, n_999, n_1000, n_104, nI_add, pk_mul, n_cl, n_inT, n_le, n_lt, n_eq, n_m1, n_m1', n_lem1, n_m1le, n_ltm1, n_m1lt, n_lepred, n_shl, fa_or, hP.1.1, dg_e]
    refine ⟨fun q => ⟨(10 - 0, 0, 0), lx1 (by omega), rfl, rfl, k, 0, u, hA, hf, hP, by omega, rfl, ?_⟩, fun q => ⟨(30 - (k + 1), 1, 10 - 0), lx1 (by omega), rfl, rfl, k, 0, u, hA, hf, hP, by omega, by omega, rfl, rfl⟩⟩
    rw [show k = ab_hc a by omega]
    rfl
  · intro as σ0 Z h0 μ L S σ hI
    obtain ⟨rfl, rfl, k, w, u, hA, hf, hP, hk, hw, rfl, rfl⟩ := hI
    by_cases hlt : w < 5
    · simp (disch := omega) only [b_N_digest_280, b_N_digest_257, b_N_digest_252, b_N_digest_250, b_N_digest_131, b_N_digest_106, b_N_digest_100, b_N_digest_76, b_N_digest_70, b_N_digest_67, b_N_digest_59, b_N_digest_31, b_N_digest_12, b_N_digest_6, b_N_digest_0, e_ll1, e_al0, e_il3, e_il4, e_is3i, e_is3r, e_is3n, e_is4i, e_is4r, e_is4n, e_inc3i, e_inc3r, e_inc3n, e_inc4i, e_inc4r, e_inc4n, e_ls1, e_c, e_cl, e_i2l, e_l2, e_b2, e_gi, e_lr, e_cs1, e_cv2, e_hd, e_cv3, e_cv1, e_cv4, e_c10, e_c1i, e_c1r, e_sh0, e_sh1, e_sh2, e_sh3, e_sh4, e_tls, e_tln, e_tl0, e_tl1, cl_82, q_N_count, q_N_faultOf, q_N_houseOf, q_N_behind, q_N_ringOf, q_N_ones, q_N_dryOf, q_N_marketOf, q_N_bestOf, q_N_couldOf, q_N_handsOf, q_N_allOf, q_N_askOf, q_N_liarsNow, Nat.reduceAdd, true_and, and_true, true_implies, not_true_eq_false, false_implies, not_false_eq_true, imp_self, forall_const, List.append_nil, ra_I, ra_J, ra_pad, true_or, or_true, Nat.reduceEqDiff, ra_bz, eq_self, if_true, if_false, false_and, and_false, Nat.zero_le, List.cons_append, List.nil_append, Nat.reduceLT, Nat.reduceLeDiff, Nat.reduceMul, Nat.reduceSub, n_0, n_1, n_2, n_3, n_4, n_5, n_6, n_7, n_8, n_9, n_10, n_12, n_40, n_48, n_57, n_59, n_72, n_99, n_102, n_103, n_107, n_108, n_192, n_255, n_256, n_999, n_1000, n_104, nI_add, pk_mul, n_cl, n_inT, n_le, n_lt, n_eq, n_m1, n_m1', n_lem1, n_m1le, n_ltm1, n_m1lt, n_lepred, n_shl, fa_or, dg_e]
      refine ⟨fun q => by omega, fun _ => ⟨hP, an_hs_nI hk, an_in_nI (by omega) (by decide), ⟨(30 - (k + 1), 1, 10 - (w + 1)), lx3 (by omega), rfl, rfl, k, w + 1, u, hA, hf, hP, hk, by omega, rfl, rfl⟩⟩⟩
    · have e : w = 5 := by omega
      subst e
      simp (disch := omega) only [b_N_digest_280, b_N_digest_257, b_N_digest_252, b_N_digest_250, b_N_digest_131, b_N_digest_106, b_N_digest_100, b_N_digest_97, b_N_digest_70, b_N_digest_67, b_N_digest_59, b_N_digest_31, b_N_digest_12, b_N_digest_6, b_N_digest_0, e_ll1, e_al0, e_il3, e_il4, e_is3i, e_is3r, e_is3n, e_is4i, e_is4r, e_is4n, e_inc3i, e_inc3r, e_inc3n, e_inc4i, e_inc4r, e_inc4n, e_ls1, e_c, e_cl, e_i2l, e_l2, e_b2, e_gi, e_lr, e_cs1, e_cv2, e_hd, e_cv3, e_cv1, e_cv4, e_c10, e_c1i, e_c1r, e_sh0, e_sh1, e_sh2, e_sh3, e_sh4, e_tls, e_tln, e_tl0, e_tl1, cl_82, q_N_count, q_N_faultOf, q_N_houseOf, q_N_behind, q_N_ringOf, q_N_ones, q_N_dryOf, q_N_marketOf, q_N_bestOf, q_N_couldOf, q_N_handsOf, q_N_allOf, q_N_askOf, q_N_liarsNow, Nat.reduceAdd, true_and, and_true, true_implies, not_true_eq_false, false_implies, not_false_eq_true, imp_self, forall_const, List.append_nil, ra_I, ra_J, ra_pad, true_or, or_true, Nat.reduceEqDiff, ra_bz, eq_self, if_true, if_false, false_and, and_false, Nat.zero_le, List.cons_append, List.nil_append, Nat.reduceLT, Nat.reduceLeDiff, Nat.reduceMul, Nat.reduceSub, n_0, n_1, n_2, n_3, n_4, n_5, n_6, n_7, n_8, n_9, n_10, n_12, n_40, n_48, n_57, n_59, n_72, n_99, n_102, n_103, n_107, n_108, n_192, n_255, n_256, n_999, n_1000, n_104, nI_add, pk_mul, n_cl, n_inT, n_le, n_lt, n_eq, n_m1, n_m1', n_lem1, n_m1le, n_ltm1, n_m1lt, n_lepred, n_shl, fa_or, dg_e]
      exact ⟨(30 - (k + 1), 0, 10 - 0), lx2 (by omega), rfl, rfl, k, 0, u, hA, hf, hP, hk, by omega, rfl, rfl⟩
  · intro as σ0 Z h0 μ L S σ hI
    obtain ⟨rfl, rfl, k, w, u, hA, hf, hP, hk, hw, rfl, rfl⟩ := hI
    by_cases hlt : w < 4
    · simp (disch := omega) only [b_N_digest_280, b_N_digest_257, b_N_digest_252, b_N_digest_250, b_N_digest_106, b_N_digest_100, b_N_digest_97, b_N_digest_76, b_N_digest_70, b_N_digest_67, b_N_digest_59, b_N_digest_31, b_N_digest_12, b_N_digest_6, b_N_digest_0, e_ll1, e_al0, e_il3, e_il4, e_is3i, e_is3r, e_is3n, e_is4i, e_is4r, e_is4n, e_inc3i, e_inc3r, e_inc3n, e_inc4i, e_inc4r, e_inc4n, e_ls1, e_c, e_cl, e_i2l, e_l2, e_b2, e_gi, e_lr, e_cs1, e_cv2, e_hd, e_cv3, e_cv1, e_cv4, e_c10, e_c1i, e_c1r, e_sh0, e_sh1, e_sh2, e_sh3, e_sh4, e_tls, e_tln, e_tl0, e_tl1, cl_82, q_N_count, q_N_faultOf, q_N_houseOf, q_N_behind, q_N_ringOf, q_N_ones, q_N_dryOf, q_N_marketOf, q_N_bestOf, q_N_couldOf, q_N_handsOf, q_N_allOf, q_N_askOf, q_N_liarsNow, Nat.reduceAdd, true_and, and_true, true_implies, not_true_eq_false, false_implies, not_false_eq_true, imp_self, forall_const, List.append_nil, ra_I, ra_J, ra_pad, true_or, or_true, Nat.reduceEqDiff, ra_bz, eq_self, if_true, if_false, false_and, and_false, Nat.zero_le, List.cons_append, List.nil_append, Nat.reduceLT, Nat.reduceLeDiff, Nat.reduceMul, Nat.reduceSub, n_0, n_1, n_2, n_3, n_4, n_5, n_6, n_7, n_8, n_9, n_10, n_12, n_40, n_48, n_57, n_59, n_72, n_99, n_102, n_103, n_107, n_108, n_192, n_255, n_256, n_999, n_1000, n_104, nI_add, pk_mul, n_cl, n_inT, n_le, n_lt, n_eq, n_m1, n_m1', n_lem1, n_m1le, n_ltm1, n_m1lt, n_lepred, n_shl, fa_or, dg_e, hA.1.2.1]
      refine ⟨fun q => by omega, fun _ => ⟨hA.1, an_hs_nI hk, an_in_nI (Nat.le_refl _) (by omega), an_in_nI (by omega) (by decide), fun σ1 g1 g2 => ⟨(30 - (k + 1), 0, 10 - (w + 1)), lx3 (by omega), rfl, rfl, k, w + 1, u, hA.fr g2 (by decide), hf.tr g2 (by decide), g1, hk, by omega, rfl, rfl⟩⟩⟩
    · have e : w = 4 := by omega
      subst e
      have hb := ab_ring_lt hk
      have hx := an_hs_nI hk
      simp (disch := omega) only [b_N_digest_280, b_N_digest_257, b_N_digest_252, b_N_digest_250, b_N_digest_131, b_N_digest_100, b_N_digest_97, b_N_digest_76, b_N_digest_70, b_N_digest_67, b_N_digest_59, b_N_digest_31, b_N_digest_12, b_N_digest_6, b_N_digest_0, e_ll1, e_al0, e_il3, e_il4, e_is3i, e_is3r, e_is3n, e_is4i, e_is4r, e_is4n, e_inc3i, e_inc3r, e_inc3n, e_inc4i, e_inc4r, e_inc4n, e_ls1, e_c, e_cl, e_i2l, e_l2, e_b2, e_gi, e_lr, e_cs1, e_cv2, e_hd, e_cv3, e_cv1, e_cv4, e_c10, e_c1i, e_c1r, e_sh0, e_sh1, e_sh2, e_sh3, e_sh4, e_tls, e_tln, e_tl0, e_tl1, cl_82, q_N_count, q_N_faultOf, q_N_houseOf, q_N_behind, q_N_ringOf, q_N_ones, q_N_dryOf, q_N_marketOf, q_N_bestOf, q_N_couldOf, q_N_handsOf, q_N_allOf, q_N_askOf, q_N_liarsNow, Nat.reduceAdd, true_and, and_true, true_implies, not_true_eq_false, false_implies, not_false_eq_true, imp_self, forall_const, List.append_nil, ra_I, ra_J, ra_pad, true_or, or_true, Nat.reduceEqDiff, ra_bz, eq_self, if_true, if_false, false_and, and_false, Nat.zero_le, List.cons_append, List.nil_append, Nat.reduceLT, Nat.reduceLeDiff, Nat.reduceMul, Nat.reduceSub, n_0, n_1, n_2, n_3, n_4, n_5, n_6, n_7, n_8, n_9, n_10, n_12, n_40, n_48, n_57, n_59, n_72, n_99, n_102, n_103, n_107, n_108, n_192, n_255, n_256, n_999, n_1000, n_104, nI_add, pk_mul, n_cl, n_inT, n_le, n_lt, n_eq, n_m1, n_m1', n_lem1, n_m1le, n_ltm1, n_m1lt, n_lepred, n_shl, fa_or, dg_e]
      refine ⟨hP, hx, hP, hx, hA.1, hx, an_in_nI (by decide) (by decide), fun σ1 p1 g1 => ?_⟩
      have hA := hA.fr g1 (by decide)
      have hf := hf.tr g1 (by decide)
      refine ⟨hA.1, hx, an_in_nI (by decide) (by decide), fun σ1 p1 g1 => ?_⟩
      have hA := hA.fr g1 (by decide)
      have hf := hf.tr g1 (by decide)
      refine ⟨hA.1, Or.inl hx, fun σ1 p1 g1 => ?_⟩
      have hA := hA.fr g1 (by decide)
      have hf := hf.tr g1 (by decide)
      refine ⟨hA.1, Or.inl hx, fun σ1 p1 g1 => ?_⟩
      have hA := hA.fr g1 (by decide)
      have hf := hf.tr g1 (by decide)
      refine ⟨hA.1, fun σ1 p1 g1 => ?_⟩
      have hA := hA.fr g1 (by decide)
      have hf := hf.tr g1 (by decide)
      refine ⟨hA.1, an_in_nI (by decide) (by decide), Or.inr hx, fun σ1 p1 g1 => ?_⟩
      have hA := hA.fr g1 (by decide)
      have hf := hf.tr g1 (by decide)
      exact ⟨(30 - (k + 1), 0, 0), lx3 (by decide), rfl, rfl, k + 1, 0, _, hA, hf, p1, by omega, rfl, rfl⟩
  · intro as σ0 Z h0 μ L S σ hI
    obtain ⟨rfl, rfl, k, w, u, hA, hf, hP, hw, rfl, rfl⟩ := hI
    obtain ⟨-, -, hZ⟩ := x_f0 h0
    by_cases hlt : w < 4
    · simp (disch := omega) only [b_N_digest_257, b_N_digest_252, b_N_digest_250, b_N_digest_131, b_N_digest_106, b_N_digest_100, b_N_digest_97, b_N_digest_76, b_N_digest_70, b_N_digest_67, b_N_digest_59, b_N_digest_31, b_N_digest_12, b_N_digest_6, b_N_digest_0, e_ll1, e_al0, e_il3, e_il4, e_is3i, e_is3r, e_is3n, e_is4i, e_is4r, e_is4n, e_inc3i, e_inc3r, e_inc3n, e_inc4i, e_inc4r, e_inc4n, e_ls1, e_c, e_cl, e_i2l, e_l2, e_b2, e_gi, e_lr, e_cs1, e_cv2, e_hd, e_cv3, e_cv1, e_cv4, e_c10, e_c1i, e_c1r, e_sh0, e_sh1, e_sh2, e_sh3, e_sh4, e_tls, e_tln, e_tl0, e_tl1, cl_82, q_N_count, q_N_faultOf, q_N_houseOf, q_N_behind, q_N_ringOf, q_N_ones, q_N_dryOf, q_N_marketOf, q_N_bestOf, q_N_couldOf, q_N_handsOf, q_N_allOf, q_N_askOf, q_N_liarsNow, Nat.reduceAdd, true_and, and_true, true_implies, not_true_eq_false, false_implies, not_false_eq_true, imp_self, forall_const, List.append_nil, ra_I, ra_J, ra_pad, true_or, or_true, Nat.reduceEqDiff, ra_bz, eq_self, if_true, if_false, false_and, and_false, Nat.zero_le, List.cons_append, List.nil_append, Nat.reduceLT, Nat.reduceLeDiff, Nat.reduceMul, Nat.reduceSub, n_0, n_1, n_2, n_3, n_4, n_5, n_6, n_7, n_8, n_9, n_10, n_12, n_40, n_48, n_57, n_59, n_72, n_99, n_102, n_103, n_107, n_108, n_192, n_255, n_256, n_999, n_1000, n_104, nI_add, pk_mul, n_cl, n_inT, n_le, n_lt, n_eq, n_m1, n_m1', n_lem1, n_m1le, n_ltm1, n_m1lt, n_lepred, n_shl, fa_or, dg_e, hA.1.2.1]
      refine ⟨fun q => by omega, fun _ => ⟨hA.1, an_in_nI (Nat.le_refl _) (by omega), an_in_nI (by omega) (by decide), fun σ1 g1 g2 => ⟨(10 - (w + 1), 0, 0), lx1 (by omega), rfl, rfl, k, w + 1, u, hA.fr g2 (by decide), hf.tr g2 (by decide), g1, by omega, rfl, rfl⟩⟩⟩
    · have e : w = 4 := by omega
      subst e
      simp (disch := omega) only [b_N_digest_280, b_N_digest_252, b_N_digest_250, b_N_digest_131, b_N_digest_106, b_N_digest_100, b_N_digest_97, b_N_digest_76, b_N_digest_70, b_N_digest_67, b_N_digest_59, b_N_digest_31, b_N_digest_12, b_N_digest_6, b_N_digest_0, e_ll1, e_al0, e_il3, e_il4, e_is3i, e_is3r, e_is3n, e_is4i, e_is4r, e_is4n, e_inc3i, e_inc3r, e_inc3n, e_inc4i, e_inc4r, e_inc4n, e_ls1, e_c, e_cl, e_i2l, e_l2, e_b2, e_gi, e_lr, e_cs1, e_cv2, e_hd, e_cv3, e_cv1, e_cv4, e_c10, e_c1i, e_c1r, e_sh0, e_sh1, e_sh2, e_sh3, e_sh4, e_tls, e_tln, e_tl0, e_tl1, cl_82, q_N_count, q_N_faultOf, q_N_houseOf, q_N_behind, q_N_ringOf, q_N_ones, q_N_dryOf, q_N_marketOf, q_N_bestOf, q_N_couldOf, q_N_handsOf, q_N_allOf, q_N_askOf, q_N_liarsNow, Nat.reduceAdd, true_and, and_true, true_implies, not_true_eq_false, false_implies, not_false_eq_true, imp_self, forall_const, List.append_nil, ra_I, ra_J, ra_pad, true_or, or_true, Nat.reduceEqDiff, ra_bz, eq_self, if_true, if_false, false_and, and_false, Nat.zero_le, List.cons_append, List.nil_append, Nat.reduceLT, Nat.reduceLeDiff, Nat.reduceMul, Nat.reduceSub, n_0, n_1, n_2, n_3, n_4, n_5, n_6, n_7, n_8, n_9, n_10, n_12, n_40, n_48, n_57, n_59, n_72, n_99, n_102, n_103, n_107, n_108, n_192, n_255, n_256, n_999, n_1000, n_104, nI_add, pk_mul, n_cl, n_inT, n_le, n_lt, n_eq, n_m1, n_m1', n_lem1, n_m1le, n_ltm1, n_m1lt, n_lepred, n_shl, fa_or, dg_e]
      refine ⟨hA.1, fun σ1 p1 g1 => ?_⟩
      have hA := hA.fr g1 (by decide)
      have hf := hf.tr g1 (by decide)
      refine ⟨hA.1, fun σ1 p1 g1 => ?_⟩
      have hA := hA.fr g1 (by decide)
      have hf := hf.tr g1 (by decide)
      refine ⟨hA.1, fun σ1 p1 g1 => ?_⟩
      have hA := hA.fr g1 (by decide)
      have hf := hf.tr g1 (by decide)
      refine ⟨hA.1, fun σ1 p1 g1 => ?_⟩
      have hA := hA.fr g1 (by decide)
      have hf := hf.tr g1 (by decide)
      refine ⟨hA.1, fun σ1 p1 g1 => ?_⟩
      have hA := hA.fr g1 (by decide)
      have hf := hf.tr g1 (by decide)
      refine ⟨hA.1, fun σ1 p1 g1 => ?_⟩
      have hA := hA.fr g1 (by decide)
      have hf := hf.tr g1 (by decide)
      refine ⟨hA.1, an_in_nI (by decide) (by decide), fun σ1 p1 g1 => ?_⟩
      have hA := hA.fr g1 (by decide)
      have hf := hf.tr g1 (by decide)
      exact ⟨hA, fun σ1 p1 g1 => hZ σ1 (hf.tr g1 (by decide))⟩
