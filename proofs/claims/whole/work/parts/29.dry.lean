/-- tempers by a code -/
def dr_te (a : Ab) (b code h : Nat) : Nat := if b.testBit h = true then code / 4 ^ (fb_ct (fun i => b.testBit i) (ab_hc a) - fb_ct (fun i => b.testBit i) (h + 1)) % 4 else ab_te a h
theorem dr_te_3 {a : Ab} {b code h : Nat} (hh : h < ab_hc a) : dr_te a b code h ≤ 3 := by
  unfold dr_te
  split
  · have := Nat.mod_lt (code / 4 ^ (fb_ct (fun i => b.testBit i) (ab_hc a) - fb_ct (fun i => b.testBit i) (h + 1))) (show 4 > 0 by decide)
    omega
  · exact ab_te_3 hh
noncomputable def dr_ok (a : Ab) (b most code : Nat) : Bool := by
  classical
  exact decide (∀ h, h < ab_hc a → b.testBit h = true → (sm a (dr_te a b code) (a 3 0)).2.2.1 h ≤ most)
theorem dr_ok_iff {a : Ab} {b most code : Nat} : dr_ok a b most code = true ↔ ∀ h, h < ab_hc a → b.testBit h = true → (sm a (dr_te a b code) (a 3 0)).2.2.1 h ≤ most := by
  unfold dr_ok
  exact decide_eq_true_iff
noncomputable def dr_first (p : Nat → Bool) (n : Nat) : Int32 := if fa_first p n < n then nI (fa_first p n) else -1
theorem dr_first_0 (p : Nat → Bool) : dr_first p 0 = -1 := rfl
theorem dr_first_s {p : Nat → Bool} {n : Nat} (hn : n < 2000000) : dr_first p (n + 1) = if p n = true then (if dr_first p n = -1 then nI n else dr_first p n) else dr_first p n := by
  have h1 := fa_first_le p n
  have h2 : (nI (fa_first p n) = -1) = False := n_m1 (by omega)
  by_cases hq : fa_first p n < n
  · have e : fa_first p (n + 1) = fa_first p n := by rw [fa_first, if_pos hq]
    have e2 : dr_first p n = nI (fa_first p n) := if_pos hq
    have e3 : dr_first p (n + 1) = nI (fa_first p n) := by unfold dr_first; rw [e, if_pos (by omega)]
    have h3 : ¬ nI (fa_first p n) = -1 := by rw [h2]; exact id
    rw [e2, e3, if_neg h3]
    split <;> rfl
  · have e2 : dr_first p n = -1 := if_neg hq
    rw [e2]
    unfold dr_first
    rw [fa_first, if_neg hq]
    by_cases hp : p n = true
    · rw [if_pos hp, if_pos (by omega), if_pos hp, if_pos rfl]
    · rw [if_neg hp, if_neg (by omega), if_neg hp]
noncomputable def an_dr (a : Ab) (n most : Nat) (w : Int32) : Int32 := if 5 < n_pop (ab_ring a n) then -4 else if w = 0 then nI (fb_ct (dr_ok a (ab_ring a n) most) (2 ^ (2 * n_pop (ab_ring a n)))) else dr_first (dr_ok a (ab_ring a n) most) (2 ^ (2 * n_pop (ab_ring a n)))
def sp_N_dryOf (a : Ab) : ra_Sp := ra_f3 82 (fun x y w σ Z => rn_R a σ ∧ an_hs a x ∧ an_in y 99 ∧ ∀ σ', rn_P a σ' → ra_fr rn_scr σ σ' → Z (some (.int (an_dr a x.toNatClampNeg y.toNatClampNeg w))) σ')
theorem q_N_dryOf {a : Ab} {oo : Nat} {x y w : Int32} {σ : ra_St} {Z : ra_R} : sp_N_dryOf a [.ref oo, .int x, .int y, .int w] σ Z = (oo = 82 ∧ (rn_R a σ ∧ an_hs a x ∧ an_in y 99 ∧ ∀ σ', rn_P a σ' → ra_fr rn_scr σ σ' → Z (some (.int (an_dr a x.toNatClampNeg y.toNatClampNeg w))) σ')) := rfl
def I_N_dryOf (a : Ab) (Z : ra_R) (as : List Value) (σ0 : ra_St) (t : Nat) (μ : ra_M) : ra_K := fun L S σ => S = [] ∧ ∃ (n y b code i : Nat) (w : Int32) (u v z : Value), as = [.ref 82, .int (nI n), .int (nI y), .int w] ∧ n < ab_hc a ∧ y ≤ 99 ∧ b = ab_ring a n ∧ n_pop b ≤ 5 ∧ code ≤ 2 ^ (2 * n_pop b) ∧ i ≤ ab_hc a ∧ rn_R a σ ∧ rn_P a σ ∧ ra_fr rn_scr σ0 σ ∧
  match t with
  | 32 => μ = (2 ^ (2 * n_pop b) - code, 3, 0) ∧ L = [.ref 82, .int (nI n), .int (nI y), .int w, .int (nI b), .int (nI (fb_ct (dr_ok a b y) code)), .int (dr_first (dr_ok a b y) code), .int (nI code), u, v, z]
  | 58 => μ = (2 ^ (2 * n_pop b) - code, 2, i) ∧ code < 2 ^ (2 * n_pop b) ∧ (∀ j, i ≤ j → j < ab_hc a → σ 92 j = nI (dr_te a b code j)) ∧ L = [.ref 82, .int (nI n), .int (nI y), .int w, .int (nI b), .int (nI (fb_ct (dr_ok a b y) code)), .int (dr_first (dr_ok a b y) code), .int (nI code), .int (nI (code / 4 ^ (fb_ct (fun i => b.testBit i) (ab_hc a) - fb_ct (fun i => b.testBit i) i))), .int (nI i - nI 1), z]
  | _ => μ = (2 ^ (2 * n_pop b) - code, 1, ab_hc a - i) ∧ code < 2 ^ (2 * n_pop b) ∧ rn_M a (sm a (dr_te a b code) (a 3 0)) σ ∧ ∃ (s : Nat) (uu : Int32), s ≤ 1 ∧ (s = 1 ↔ ∀ j, j < i → b.testBit j = true → (sm a (dr_te a b code) (a 3 0)).2.2.1 j ≤ y) ∧ L = [.ref 82, .int (nI n), .int (nI y), .int w, .int (nI b), .int (nI (fb_ct (dr_ok a b y) code)), .int (dr_first (dr_ok a b y) code), .int (nI code), .int uu, .int (nI s), .int (nI i)]
theorem dr_two {p : Nat} (h : p ≤ 5) : 2 ^ (2 * p) ≤ 1024 := by
  have : 2 ^ (2 * p) ≤ 2 ^ 10 := Nat.pow_le_pow_right (by decide) (by omega)
  omega
theorem n_predlt {i : Nat} (h : i < 1073741824) : (nI i - nI 1 < nI 0) = (i = 0) := by
  apply propext
  rw [fa_lt, pk_sub_toInt (by omega) (by omega), nI_toInt (by omega)]
  omega
theorem k_N_dryOf {l : Launch} {X : ra_X} {a : Ab} (hW : ab_W a) : ra_MOK l X mi_N_dryOf (sp_N_dryOf a) := by
  have h8 := ab_hc_8 a
  have hr12 := hW.2.2.2.2.1
  refine g_N_dryOf (k_N_reads hW) (k_N_ringOf (a := a)) k_N_ones k_N_isIn (k_N_runs hW) (sp_N_dryOf a) (I_N_dryOf a) ?_ ?_ ?_ ?_
  · intro as σ Z _ _ h
    obtain ⟨x, y, w, rfl, hR, hx, hy, hZ⟩ := x_f3 h
    obtain ⟨n, hn, rfl⟩ := an_hs_of hx
    obtain ⟨y, hy2, rfl⟩ := an_in_of hy (by decide)
    have hlt := ab_ring_lt hn
    have hp8 := n_pop_le (ab_ring a n)
    rw [n_cl (by omega), n_cl (by omega)] at hZ
    simp (disch := omega) only [b_N_dryOf_235, b_N_dryOf_233, b_N_dryOf_228, b_N_dryOf_224, b_N_dryOf_216, b_N_dryOf_214, b_N_dryOf_209, b_N_dryOf_203, b_N_dryOf_195, b_N_dryOf_194, b_N_dryOf_190, b_N_dryOf_183, b_N_dryOf_175, b_N_dryOf_174, b_N_dryOf_170, b_N_dryOf_159, b_N_dryOf_149, b_N_dryOf_144, b_N_dryOf_135, b_N_dryOf_121, b_N_dryOf_113, b_N_dryOf_111, b_N_dryOf_104, b_N_dryOf_93, b_N_dryOf_86, b_N_dryOf_79, b_N_dryOf_63, b_N_dryOf_58, b_N_dryOf_46, b_N_dryOf_32, b_N_dryOf_23, b_N_dryOf_20, b_N_dryOf_0, e_il6, e_il5, e_il3, e_il7, e_il9, e_al0, e_il10, e_il2, e_il4, e_il8, e_il1, e_is6i, e_is6r, e_is6n, e_is5i, e_is5r, e_is5n, e_is9i, e_is9r, e_is9n, e_is10i, e_is10r, e_is10n, e_is8i, e_is8r, e_is8n, e_is7i, e_is7r, e_is7n, e_is4i, e_is4r, e_is4n, e_inc7i, e_inc7r, e_inc7n, e_inc10i, e_inc10r, e_inc10n, e_inc9i, e_inc9r, e_inc9n, e_c, e_i2, e_dv, e_b1, e_b2, e_gi, e_gr, e_ald, e_ast, e_ir, e_cs2, e_cs1, e_cv2, e_hd, e_cv1, e_c10, e_c1i, e_c1r, e_sh0, e_sh1, e_sh2, e_sh3, e_sh4, e_tls, e_tln, e_tl0, e_tl1, cl_82, cl_87, ln_87, cl_92, ln_92, cl_95, ln_95, tg_82_5, tg_82_11, tg_82_14, q_N_reads, q_N_ringOf, q_N_ones, q_N_isIn, q_N_runs, Nat.reduceAdd, true_and, and_true, true_implies, not_true_eq_false, false_implies, not_false_eq_true, imp_self, forall_const, List.append_nil, ra_I, ra_J, ra_pad, true_or, or_true, Nat.reduceEqDiff, ra_bz, eq_self, if_true, if_false, false_and, and_false, Nat.zero_le, List.cons_append, List.nil_append, Nat.reduceLT, Nat.reduceLeDiff, Nat.reduceMul, Nat.reduceSub, n_0, n_1, n_2, n_3, n_4, n_5, n_6, n_7, n_8, n_9, n_10, n_12, n_40, n_48, n_57, n_59, n_72, n_99, n_102, n_103, n_107, n_108, n_192, n_255, n_256, n_999, n_1000, n_104, nI_add, pk_mul, n_cl, n_inT, n_le, n_lt, n_eq, n_m1, n_m1', n_lem1, n_m1le, n_ltm1, n_m1lt, n_lepred, n_shl, fa_or]
    refine ⟨hR.1, fun σ1 hP hf => ⟨hP, an_hs_nI hn, fun q => ?_, fun q => ?_⟩⟩
    · exact ⟨_, rfl, n, y, ab_ring a n, 0, 0, w, _, _, _, rfl, hn, hy2, rfl, q, Nat.zero_le _, Nat.zero_le _, hR.fr hf (by decide), hP, hf.mono (by decide), rfl, rfl⟩
    · have h9 := hZ σ1 hP (hf.mono (by decide))
      unfold an_dr at h9
      rw [if_pos (by omega)] at h9
      exact h9
  · -- 32
    intro as σ0 Z h0 μ L S σ hI
    obtain ⟨rfl, n, y, b, code, i, w, u, v, z, rfl, hn, hy, hb, hp, hc, hi, hR, hP, hf, rfl, rfl⟩ := hI
    obtain ⟨_, _, _, e, hR0, -, -, hZ⟩ := x_f3 h0
    cases e
    rw [n_cl (by omega), n_cl (by omega)] at hZ
    have hb256 : b < 256 := by rw [hb]; exact ab_ring_lt hn
    have hM := dr_two hp
    simp (disch := omega) only [b_N_dryOf_235, b_N_dryOf_233, b_N_dryOf_228, b_N_dryOf_224, b_N_dryOf_216, b_N_dryOf_214, b_N_dryOf_209, b_N_dryOf_203, b_N_dryOf_195, b_N_dryOf_194, b_N_dryOf_190, b_N_dryOf_183, b_N_dryOf_175, b_N_dryOf_174, b_N_dryOf_170, b_N_dryOf_159, b_N_dryOf_149, b_N_dryOf_144, b_N_dryOf_135, b_N_dryOf_121, b_N_dryOf_113, b_N_dryOf_111, b_N_dryOf_104, b_N_dryOf_93, b_N_dryOf_86, b_N_dryOf_79, b_N_dryOf_63, b_N_dryOf_58, b_N_dryOf_46, b_N_dryOf_32, b_N_dryOf_23, b_N_dryOf_20, b_N_dryOf_0, e_il6, e_il5, e_il3, e_il7, e_il9, e_al0, e_il10, e_il2, e_il4, e_il8, e_il1, e_is6i, e_is6r, e_is6n, e_is5i, e_is5r, e_is5n, e_is9i, e_is9r, e_is9n, e_is10i, e_is10r, e_is10n, e_is8i, e_is8r, e_is8n, e_is7i, e_is7r, e_is7n, e_is4i, e_is4r, e_is4n, e_inc7i, e_inc7r, e_inc7n, e_inc10i, e_inc10r, e_inc10n, e_inc9i, e_inc9r, e_inc9n, e_c, e_i2, e_dv, e_b1, e_b2, e_gi, e_gr, e_ald, e_ast, e_ir, e_cs2, e_cs1, e_cv2, e_hd, e_cv1, e_c10, e_c1i, e_c1r, e_sh0, e_sh1, e_sh2, e_sh3, e_sh4, e_tls, e_tln, e_tl0, e_tl1, cl_82, cl_87, ln_87, cl_92, ln_92, cl_95, ln_95, tg_82_5, tg_82_11, tg_82_14, q_N_reads, q_N_ringOf, q_N_ones, q_N_isIn, q_N_runs, Nat.reduceAdd, true_and, and_true, true_implies, not_true_eq_false, false_implies, not_false_eq_true, imp_self, forall_const, List.append_nil, ra_I, ra_J, ra_pad, true_or, or_true, Nat.reduceEqDiff, ra_bz, eq_self, if_true, if_false, false_and, and_false, Nat.zero_le, List.cons_append, List.nil_append, Nat.reduceLT, Nat.reduceLeDiff, Nat.reduceMul, Nat.reduceSub, n_0, n_1, n_2, n_3, n_4, n_5, n_6, n_7, n_8, n_9, n_10, n_12, n_40, n_48, n_57, n_59, n_72, n_99, n_102, n_103, n_107, n_108, n_192, n_255, n_256, n_999, n_1000, n_104, nI_add, pk_mul, n_cl, n_inT, n_le, n_lt, n_eq, n_m1, n_m1', n_lem1, n_m1le, n_ltm1, n_m1lt, n_lepred, n_shl, fa_or, hP.1.1]
    refine ⟨fun q => ?_, fun q => ?_⟩
    · have e : code = 2 ^ (2 * n_pop b) := by omega
      have h9 := hZ σ hP hf
      unfold an_dr at h9
      rw [← hb, if_neg (by omega), ← e] at h9
      refine ⟨fun q2 => ?_, fun q2 => ?_⟩
      · rw [if_pos (show w = 0 from q2)] at h9
        exact h9
      · rw [if_neg (show ¬ w = 0 from q2)] at h9
        exact h9
    · refine ⟨(2 ^ (2 * n_pop b) - code, 2, ab_hc a), lx2 (by omega), rfl, n, y, b, code, ab_hc a, w, u, v, z, rfl, hn, hy, hb, hp, hc, Nat.le_refl _, hR, hP, hf, rfl, by omega, fun j h1 h2 => by omega, ?_⟩
      rw [Nat.sub_self, Nat.pow_zero, Nat.div_one]
  · -- 58
    intro as σ0 Z h0 μ L S σ hI
    obtain ⟨rfl, n, y, b, code, i, w, u, v, z, rfl, hn, hy, hb, hp, hc, hi, hR, hP, hf, rfl, hc2, hq, rfl⟩ := hI
    have hb256 : b < 256 := by rw [hb]; exact ab_ring_lt hn
    have hM := dr_two hp
    cases i with
    | zero =>
      simp (disch := omega) only [b_N_dryOf_235, b_N_dryOf_233, b_N_dryOf_228, b_N_dryOf_224, b_N_dryOf_216, b_N_dryOf_214, b_N_dryOf_209, b_N_dryOf_203, b_N_dryOf_195, b_N_dryOf_194, b_N_dryOf_190, b_N_dryOf_183, b_N_dryOf_175, b_N_dryOf_174, b_N_dryOf_170, b_N_dryOf_159, b_N_dryOf_149, b_N_dryOf_144, b_N_dryOf_135, b_N_dryOf_121, b_N_dryOf_113, b_N_dryOf_111, b_N_dryOf_104, b_N_dryOf_93, b_N_dryOf_86, b_N_dryOf_79, b_N_dryOf_63, b_N_dryOf_58, b_N_dryOf_46, b_N_dryOf_32, b_N_dryOf_23, b_N_dryOf_20, b_N_dryOf_0, e_il6, e_il5, e_il3, e_il7, e_il9, e_al0, e_il10, e_il2, e_il4, e_il8, e_il1, e_is6i, e_is6r, e_is6n, e_is5i, e_is5r, e_is5n, e_is9i, e_is9r, e_is9n, e_is10i, e_is10r, e_is10n, e_is8i, e_is8r, e_is8n, e_is7i, e_is7r, e_is7n, e_is4i, e_is4r, e_is4n, e_inc7i, e_inc7r, e_inc7n, e_inc10i, e_inc10r, e_inc10n, e_inc9i, e_inc9r, e_inc9n, e_c, e_i2, e_dv, e_b1, e_b2, e_gi, e_gr, e_ald, e_ast, e_ir, e_cs2, e_cs1, e_cv2, e_hd, e_cv1, e_c10, e_c1i, e_c1r, e_sh0, e_sh1, e_sh2, e_sh3, e_sh4, e_tls, e_tln, e_tl0, e_tl1, cl_82, cl_87, ln_87, cl_92, ln_92, cl_95, ln_95, tg_82_5, tg_82_11, tg_82_14, q_N_reads, q_N_ringOf, q_N_ones, q_N_isIn, q_N_runs, Nat.reduceAdd, true_and, and_true, true_implies, not_true_eq_false, false_implies, not_false_eq_true, imp_self, forall_const, List.append_nil, ra_I, ra_J, ra_pad, true_or, or_true, Nat.reduceEqDiff, ra_bz, eq_self, if_true, if_false, false_and, and_false, Nat.zero_le, List.cons_append, List.nil_append, Nat.reduceLT, Nat.reduceLeDiff, Nat.reduceMul, Nat.reduceSub, n_0, n_1, n_2, n_3, n_4, n_5, n_6, n_7, n_8, n_9, n_10, n_12, n_40, n_48, n_57, n_59, n_72, n_99, n_102, n_103, n_107, n_108, n_192, n_255, n_256, n_999, n_1000, n_104, nI_add, pk_mul, n_cl, n_inT, n_le, n_lt, n_eq, n_m1, n_m1', n_lem1, n_m1le, n_ltm1, n_m1lt, n_lepred, n_shl, fa_or, n_predlt, hR.2.1]
      refine ⟨dr_te a b code, hR, hP, fun j hj => ⟨hq j (Nat.zero_le _) hj, dr_te_3 hj⟩, Nat.le_refl _, fun σ' g1 g2 g3 => ?_⟩
      exact ⟨(2 ^ (2 * n_pop b) - code, 1, ab_hc a - 0), lx2 (by omega), rfl, n, y, b, code, 0, w, u, v, z, rfl, hn, hy, hb, hp, hc, Nat.zero_le _, hR.fr g2 (by decide), hP.fr g2 (by rw [g3]) (by decide), hf.tr g2 (by decide), rfl, hc2, g1, 1, _, by omega, ⟨fun _ j hj => by omega, fun _ => rfl⟩, rfl⟩
    | succ i =>
      have e1 : nI (i + 1) - nI 1 = nI i := by rw [n_sub (by omega)]; rfl
      have hc1 := fb_ct_mono (fun k => b.testBit k) (show i + 1 ≤ ab_hc a by omega)
      have hcs := fb_ct_succ (fun k => b.testBit k) i
      generalize hl : code / 4 ^ (fb_ct (fun k => b.testBit k) (ab_hc a) - fb_ct (fun k => b.testBit k) (i + 1)) = left
      have hleft : left ≤ code := by rw [← hl]; exact Nat.div_le_self _ _
      rw [e1]
      have fin : ∀ x y' : Nat, x = dr_te a b code i → y' = code / 4 ^ (fb_ct (fun k => b.testBit k) (ab_hc a) - fb_ct (fun k => b.testBit k) i) → ∃ μ', ra_lx μ' (2 ^ (2 * n_pop b) - code, 2, i + 1) ∧ I_N_dryOf a Z [.ref 82, .int (nI n), .int (nI y), .int w] σ0 58 μ' [.ref 82, .int (nI n), .int (nI y), .int w, .int (nI b), .int (nI (fb_ct (dr_ok a b y) code)), .int (dr_first (dr_ok a b y) code), .int (nI code), .int (nI y'), .int (nI i + -nI 1), z] [] (ra_sw σ 92 i (nI x)) := by
        intro x y' hx hy'
        have hf1 : ra_fr [92] σ (ra_sw σ 92 i (nI x)) := ra_fr.rf.sw (by decide) (by decide)
        refine ⟨(2 ^ (2 * n_pop b) - code, 2, i), lx3 (by omega), rfl, n, y, b, code, i, w, u, v, z, rfl, hn, hy, hb, hp, hc, by omega, hR.fr hf1 (by decide), hP.fr hf1 (by simp [sw_at]) (by decide), hf.tr hf1 (by decide), rfl, hc2, fun j h1 h2 => ?_, ?_⟩
        · rw [sw_at, if_pos rfl]
          split
          · next e => rw [e, hx]
          · exact hq j (by omega) h2
        · rw [hy', Int32.sub_eq_add_neg]
      simp (disch := omega) only [b_N_dryOf_235, b_N_dryOf_233, b_N_dryOf_228, b_N_dryOf_224, b_N_dryOf_216, b_N_dryOf_214, b_N_dryOf_209, b_N_dryOf_203, b_N_dryOf_195, b_N_dryOf_194, b_N_dryOf_190, b_N_dryOf_183, b_N_dryOf_175, b_N_dryOf_174, b_N_dryOf_170, b_N_dryOf_159, b_N_dryOf_149, b_N_dryOf_144, b_N_dryOf_135, b_N_dryOf_121, b_N_dryOf_113, b_N_dryOf_111, b_N_dryOf_104, b_N_dryOf_93, b_N_dryOf_86, b_N_dryOf_79, b_N_dryOf_63, b_N_dryOf_58, b_N_dryOf_46, b_N_dryOf_32, b_N_dryOf_23, b_N_dryOf_20, b_N_dryOf_0, e_il6, e_il5, e_il3, e_il7, e_il9, e_al0, e_il10, e_il2, e_il4, e_il8, e_il1, e_is6i, e_is6r, e_is6n, e_is5i, e_is5r, e_is5n, e_is9i, e_is9r, e_is9n, e_is10i, e_is10r, e_is10n, e_is8i, e_is8r, e_is8n, e_is7i, e_is7r, e_is7n, e_is4i, e_is4r, e_is4n, e_inc7i, e_inc7r, e_inc7n, e_inc10i, e_inc10r, e_inc10n, e_inc9i, e_inc9r, e_inc9n, e_c, e_i2, e_dv, e_b1, e_b2, e_gi, e_gr, e_ald, e_ast, e_ir, e_cs2, e_cs1, e_cv2, e_hd, e_cv1, e_c10, e_c1i, e_c1r, e_sh0, e_sh1, e_sh2, e_sh3, e_sh4, e_tls, e_tln, e_tl0, e_tl1, cl_82, cl_87, ln_87, cl_92, ln_92, cl_95, ln_95, tg_82_5, tg_82_11, tg_82_14, q_N_reads, q_N_ringOf, q_N_ones, q_N_isIn, q_N_runs, Nat.reduceAdd, true_and, and_true, true_implies, not_true_eq_false, false_implies, not_false_eq_true, imp_self, forall_const, List.append_nil, ra_I, ra_J, ra_pad, true_or, or_true, Nat.reduceEqDiff, ra_bz, eq_self, if_true, if_false, false_and, and_false, Nat.zero_le, List.cons_append, List.nil_append, Nat.reduceLT, Nat.reduceLeDiff, Nat.reduceMul, Nat.reduceSub, n_0, n_1, n_2, n_3, n_4, n_5, n_6, n_7, n_8, n_9, n_10, n_12, n_40, n_48, n_57, n_59, n_72, n_99, n_102, n_103, n_107, n_108, n_192, n_255, n_256, n_999, n_1000, n_104, nI_add, pk_mul, n_cl, n_inT, n_le, n_lt, n_eq, n_m1, n_m1', n_lem1, n_m1le, n_ltm1, n_m1lt, n_lepred, n_shl, fa_or, (hP.1.2 i (by omega)).2.2, pk_div, n_eq, Nat.reduceEqDiff]
      have e4 : nI left - nI (left / 4 * 4) = nI (left % 4) := by rw [n_sub (by omega)]; congr 1; omega
      rw [e4]
      refine ⟨fun q => by omega, fun _ => ⟨fun q => ⟨fun _ => ?_, fun q2 => absurd q q2⟩, fun q => ⟨fun q2 => absurd q2 q, fun _ => ?_⟩⟩⟩
      · refine fin _ _ ?_ ?_
        · unfold dr_te
          rw [if_pos q, hl]
        · rw [if_pos q] at hcs
          rw [← hl, Nat.div_div_eq_div_mul, ← Nat.pow_succ]
          congr 2
          omega
      · refine fin _ _ ?_ ?_
        · unfold dr_te
          rw [if_neg q]
        · rw [if_neg q] at hcs
          rw [← hl, show fb_ct (fun k => b.testBit k) i = fb_ct (fun k => b.testBit k) (i + 1) by omega]
  · -- 135
    intro as σ0 Z h0 μ L S σ hI
    obtain ⟨rfl, n, y, b, code, i, w, u, v, z, rfl, hn, hy, hb, hp, hc, hi, hR, hP, hf, rfl, hc2, hM0, s, uu, hs1, hs, rfl⟩ := hI
    have hb256 : b < 256 := by rw [hb]; exact ab_ring_lt hn
    have hM := dr_two hp
    have hct := fb_ct_le (dr_ok a b y) code
    have next : ∀ (nn : Nat) (f : Int32), nn = fb_ct (dr_ok a b y) (code + 1) → f = dr_first (dr_ok a b y) (code + 1) → ∃ μ', ra_lx μ' (2 ^ (2 * n_pop b) - code, 1, ab_hc a - i) ∧ I_N_dryOf a Z [.ref 82, .int (nI n), .int (nI y), .int w] σ0 32 μ' [.ref 82, .int (nI n), .int (nI y), .int w, .int (nI b), .int (nI nn), .int f, .int (nI (code + 1)), .int uu, .int (nI s), .int (nI i)] [] σ := by
      intro nn f h1 h2
      rw [h1, h2]
      exact ⟨(2 ^ (2 * n_pop b) - (code + 1), 3, 0), lx1 (by omega), rfl, n, y, b, code + 1, 0, w, _, _, _, rfl, hn, hy, hb, hp, by omega, Nat.zero_le _, hR, hP, hf, rfl, rfl⟩
    have step : ∀ s' : Nat, s' ≤ 1 → i < ab_hc a → (s' = 1 ↔ s = 1 ∧ (b.testBit i = true → (sm a (dr_te a b code) (a 3 0)).2.2.1 i ≤ y)) → ∃ μ', ra_lx μ' (2 ^ (2 * n_pop b) - code, 1, ab_hc a - i) ∧ I_N_dryOf a Z [.ref 82, .int (nI n), .int (nI y), .int w] σ0 135 μ' [.ref 82, .int (nI n), .int (nI y), .int w, .int (nI b), .int (nI (fb_ct (dr_ok a b y) code)), .int (dr_first (dr_ok a b y) code), .int (nI code), .int uu, .int (nI s'), .int (nI (i + 1))] [] σ := by
      intro s' h1 h2 h3
      refine ⟨(2 ^ (2 * n_pop b) - code, 1, ab_hc a - (i + 1)), lx3 (by omega), rfl, n, y, b, code, i + 1, w, u, v, z, rfl, hn, hy, hb, hp, hc, by omega, hR, hP, hf, rfl, hc2, hM0, s', uu, h1, ?_, rfl⟩
      rw [h3, hs]
      constructor
      · intro q j hj
        rcases (show j < i ∨ j = i by omega) with z | rfl
        · exact q.1 j z
        · exact q.2
      · intro q
        exact ⟨fun j hj => q j (by omega), q i (by omega)⟩
    by_cases hlt : i < ab_hc a
    · have hb9 := (sm_bd hW (dr_te a b code) (a 3 0) i hlt).2.2.1
      simp (disch := omega) only [b_N_dryOf_235, b_N_dryOf_233, b_N_dryOf_228, b_N_dryOf_224, b_N_dryOf_216, b_N_dryOf_214, b_N_dryOf_209, b_N_dryOf_203, b_N_dryOf_195, b_N_dryOf_194, b_N_dryOf_190, b_N_dryOf_183, b_N_dryOf_175, b_N_dryOf_174, b_N_dryOf_170, b_N_dryOf_159, b_N_dryOf_149, b_N_dryOf_144, b_N_dryOf_135, b_N_dryOf_121, b_N_dryOf_113, b_N_dryOf_111, b_N_dryOf_104, b_N_dryOf_93, b_N_dryOf_86, b_N_dryOf_79, b_N_dryOf_63, b_N_dryOf_58, b_N_dryOf_46, b_N_dryOf_32, b_N_dryOf_23, b_N_dryOf_20, b_N_dryOf_0, e_il6, e_il5, e_il3, e_il7, e_il9, e_al0, e_il10, e_il2, e_il4, e_il8, e_il1, e_is6i, e_is6r, e_is6n, e_is5i, e_is5r, e_is5n, e_is9i, e_is9r, e_is9n, e_is10i, e_is10r, e_is10n, e_is8i, e_is8r, e_is8n, e_is7i, e_is7r, e_is7n, e_is4i, e_is4r, e_is4n, e_inc7i, e_inc7r, e_inc7n, e_inc10i, e_inc10r, e_inc10n, e_inc9i, e_inc9r, e_inc9n, e_c, e_i2, e_dv, e_b1, e_b2, e_gi, e_gr, e_ald, e_ast, e_ir, e_cs2, e_cs1, e_cv2, e_hd, e_cv1, e_c10, e_c1i, e_c1r, e_sh0, e_sh1, e_sh2, e_sh3, e_sh4, e_tls, e_tln, e_tl0, e_tl1, cl_82, cl_87, ln_87, cl_92, ln_92, cl_95, ln_95, tg_82_5, tg_82_11, tg_82_14, q_N_reads, q_N_ringOf, q_N_ones, q_N_isIn, q_N_runs, Nat.reduceAdd, true_and, and_true, true_implies, not_true_eq_false, false_implies, not_false_eq_true, imp_self, forall_const, List.append_nil, ra_I, ra_J, ra_pad, true_or, or_true, Nat.reduceEqDiff, ra_bz, eq_self, if_true, if_false, false_and, and_false, Nat.zero_le, List.cons_append, List.nil_append, Nat.reduceLT, Nat.reduceLeDiff, Nat.reduceMul, Nat.reduceSub, n_0, n_1, n_2, n_3, n_4, n_5, n_6, n_7, n_8, n_9, n_10, n_12, n_40, n_48, n_57, n_59, n_72, n_99, n_102, n_103, n_107, n_108, n_192, n_255, n_256, n_999, n_1000, n_104, nI_add, pk_mul, n_cl, n_inT, n_le, n_lt, n_eq, n_m1, n_m1', n_lem1, n_m1le, n_ltm1, n_m1lt, n_lepred, n_shl, fa_or, hP.1.1, (hM0 i hlt).2.2.1]
      refine ⟨fun q => by omega, fun _ => ⟨fun q => step 0 (by omega) hlt ⟨fun w => by omega, fun w => by omega⟩, fun q => ⟨fun q2 => ⟨fun q3 => step 0 (by omega) hlt ⟨fun w => by omega, fun w => by have := w.2 q2; omega⟩, fun q3 => step 1 (by omega) hlt ⟨fun _ => ⟨by omega, fun _ => by omega⟩, fun _ => rfl⟩⟩, fun q2 => step 1 (by omega) hlt ⟨fun _ => ⟨by omega, fun w => absurd w q2⟩, fun _ => rfl⟩⟩⟩⟩
    · have hok : dr_ok a b y code = true ↔ s = 1 := by
        rw [dr_ok_iff, hs]
        exact ⟨fun q j hj => q j (by omega), fun q j hj => q j (by omega)⟩
      have e1 := fb_ct_succ (dr_ok a b y) code
      have e2 := dr_first_s (p := dr_ok a b y) (n := code) (by omega)
      rcases (show s = 0 ∨ s = 1 by omega) with rfl | rfl
      · have q' : ¬ dr_ok a b y code = true := fun z => by have := hok.mp z; omega
        rw [if_neg q'] at e1 e2
        simp (disch := omega) only [b_N_dryOf_235, b_N_dryOf_233, b_N_dryOf_228, b_N_dryOf_224, b_N_dryOf_216, b_N_dryOf_214, b_N_dryOf_209, b_N_dryOf_203, b_N_dryOf_195, b_N_dryOf_194, b_N_dryOf_190, b_N_dryOf_183, b_N_dryOf_175, b_N_dryOf_174, b_N_dryOf_170, b_N_dryOf_159, b_N_dryOf_149, b_N_dryOf_144, b_N_dryOf_135, b_N_dryOf_121, b_N_dryOf_113, b_N_dryOf_111, b_N_dryOf_104, b_N_dryOf_93, b_N_dryOf_86, b_N_dryOf_79, b_N_dryOf_63, b_N_dryOf_58, b_N_dryOf_46, b_N_dryOf_32, b_N_dryOf_23, b_N_dryOf_20, b_N_dryOf_0, e_il6, e_il5, e_il3, e_il7, e_il9, e_al0, e_il10, e_il2, e_il4, e_il8, e_il1, e_is6i, e_is6r, e_is6n, e_is5i, e_is5r, e_is5n, e_is9i, e_is9r, e_is9n, e_is10i, e_is10r, e_is10n, e_is8i, e_is8r, e_is8n, e_is7i, e_is7r, e_is7n, e_is4i, e_is4r, e_is4n, e_inc7i, e_inc7r, e_inc7n, e_inc10i, e_inc10r, e_inc10n, e_inc9i, e_inc9r, e_inc9n, e_c, e_i2, e_dv, e_b1, e_b2, e_gi, e_gr, e_ald, e_ast, e_ir, e_cs2, e_cs1, e_cv2, e_hd, e_cv1, e_c10, e_c1i, e_c1r, e_sh0, e_sh1, e_sh2, e_sh3, e_sh4, e_tls, e_tln, e_tl0, e_tl1, cl_82, cl_87, ln_87, cl_92, ln_92, cl_95, ln_95, tg_82_5, tg_82_11, tg_82_14, q_N_reads, q_N_ringOf, q_N_ones, q_N_isIn, q_N_runs, Nat.reduceAdd, true_and, and_true, true_implies, not_true_eq_false, false_implies, not_false_eq_true, imp_self, forall_const, List.append_nil, ra_I, ra_J, ra_pad, true_or, or_true, Nat.reduceEqDiff, ra_bz, eq_self, if_true, if_false, false_and, and_false, Nat.zero_le, List.cons_append, List.nil_append, Nat.reduceLT, Nat.reduceLeDiff, Nat.reduceMul, Nat.reduceSub, n_0, n_1, n_2, n_3, n_4, n_5, n_6, n_7, n_8, n_9, n_10, n_12, n_40, n_48, n_57, n_59, n_72, n_99, n_102, n_103, n_107, n_108, n_192, n_255, n_256, n_999, n_1000, n_104, nI_add, pk_mul, n_cl, n_inT, n_le, n_lt, n_eq, n_m1, n_m1', n_lem1, n_m1le, n_ltm1, n_m1lt, n_lepred, n_shl, fa_or, hP.1.1]
        refine ⟨fun _ => ?_, fun q => absurd q (by omega)⟩
        exact next _ _ (by rw [e1]) e2.symm
      · have q' : dr_ok a b y code = true := hok.mpr rfl
        rw [if_pos q'] at e1 e2
        simp (disch := omega) only [b_N_dryOf_235, b_N_dryOf_233, b_N_dryOf_228, b_N_dryOf_224, b_N_dryOf_216, b_N_dryOf_214, b_N_dryOf_209, b_N_dryOf_203, b_N_dryOf_195, b_N_dryOf_194, b_N_dryOf_190, b_N_dryOf_183, b_N_dryOf_175, b_N_dryOf_174, b_N_dryOf_170, b_N_dryOf_159, b_N_dryOf_149, b_N_dryOf_144, b_N_dryOf_135, b_N_dryOf_121, b_N_dryOf_113, b_N_dryOf_111, b_N_dryOf_104, b_N_dryOf_93, b_N_dryOf_86, b_N_dryOf_79, b_N_dryOf_63, b_N_dryOf_58, b_N_dryOf_46, b_N_dryOf_32, b_N_dryOf_23, b_N_dryOf_20, b_N_dryOf_0, e_il6, e_il5, e_il3, e_il7, e_il9, e_al0, e_il10, e_il2, e_il4, e_il8, e_il1, e_is6i, e_is6r, e_is6n, e_is5i, e_is5r, e_is5n, e_is9i, e_is9r, e_is9n, e_is10i, e_is10r, e_is10n, e_is8i, e_is8r, e_is8n, e_is7i, e_is7r, e_is7n, e_is4i, e_is4r, e_is4n, e_inc7i, e_inc7r, e_inc7n, e_inc10i, e_inc10r, e_inc10n, e_inc9i, e_inc9r, e_inc9n, e_c, e_i2, e_dv, e_b1, e_b2, e_gi, e_gr, e_ald, e_ast, e_ir, e_cs2, e_cs1, e_cv2, e_hd, e_cv1, e_c10, e_c1i, e_c1r, e_sh0, e_sh1, e_sh2, e_sh3, e_sh4, e_tls, e_tln, e_tl0, e_tl1, cl_82, cl_87, ln_87, cl_92, ln_92, cl_95, ln_95, tg_82_5, tg_82_11, tg_82_14, q_N_reads, q_N_ringOf, q_N_ones, q_N_isIn, q_N_runs, Nat.reduceAdd, true_and, and_true, true_implies, not_true_eq_false, false_implies, not_false_eq_true, imp_self, forall_const, List.append_nil, ra_I, ra_J, ra_pad, true_or, or_true, Nat.reduceEqDiff, ra_bz, eq_self, if_true, if_false, false_and, and_false, Nat.zero_le, List.cons_append, List.nil_append, Nat.reduceLT, Nat.reduceLeDiff, Nat.reduceMul, Nat.reduceSub, n_0, n_1, n_2, n_3, n_4, n_5, n_6, n_7, n_8, n_9, n_10, n_12, n_40, n_48, n_57, n_59, n_72, n_99, n_102, n_103, n_107, n_108, n_192, n_255, n_256, n_999, n_1000, n_104, nI_add, pk_mul, n_cl, n_inT, n_le, n_lt, n_eq, n_m1, n_m1', n_lem1, n_m1le, n_ltm1, n_m1lt, n_lepred, n_shl, fa_or, hP.1.1]
        refine ⟨fun _ => ⟨fun q2 => ?_, fun q2 => ?_⟩, fun q => absurd q (by omega)⟩
        · rw [if_pos (show dr_first (dr_ok a b y) code = -1 from q2)] at e2
          exact next _ _ (by rw [e1]) e2.symm
        · rw [if_neg (show ¬ dr_first (dr_ok a b y) code = -1 from q2)] at e2
          exact next _ _ (by rw [e1]) e2.symm
noncomputable def an_dry (a : Ab) (x y w : Int32) : Int32 := by
  classical
  exact if an_hs a x ∧ an_in y 99 ∧ an_in w 1 then an_dr a x.toNatClampNeg y.toNatClampNeg w else -2
theorem an_dry_yes {a : Ab} {x y w : Int32} (h : an_hs a x ∧ an_in y 99 ∧ an_in w 1) : an_dry a x y w = an_dr a x.toNatClampNeg y.toNatClampNeg w := by
  unfold an_dry
  exact if_pos h
theorem an_dry_no {a : Ab} {x y w : Int32} (h : ¬ (an_hs a x ∧ an_in y 99 ∧ an_in w 1)) : an_dry a x y w = -2 := by
  unfold an_dry
  exact if_neg h
def sp_N_dry (a : Ab) : ra_Sp := ra_f3 82 (fun x y w σ Z => rn_R a σ ∧ ∀ σ', ra_fr rn_scr σ σ' → Z (some (.int (an_dry a x y w))) σ')
theorem q_N_dry {a : Ab} {oo : Nat} {x y w : Int32} {σ : ra_St} {Z : ra_R} : sp_N_dry a [.ref oo, .int x, .int y, .int w] σ Z = (oo = 82 ∧ (rn_R a σ ∧ ∀ σ', ra_fr rn_scr σ σ' → Z (some (.int (an_dry a x y w))) σ')) := rfl
theorem k_N_dry {l : Launch} {X : ra_X} {a : Ab} (hW : ab_W a) : ra_MOK l X mi_N_dry (sp_N_dry a) := by
  refine g_N_dry (k_N_isHouse hW) k_N_in (k_N_dryOf hW) (sp_N_dry a) ?_
  intro as σ Z _ _ h
  obtain ⟨x, y, w, rfl, hR, hZ⟩ := x_f3 h
  simp (disch := omega) only [b_N_dry_39, b_N_dry_37, b_N_dry_27, b_N_dry_18, b_N_dry_8, b_N_dry_0, e_al0, e_il1, e_il2, e_il3, e_c, e_b1, e_ir, e_cs3, e_cv4, e_hd, e_cv2, e_c10, e_c1i, e_c1r, e_sh0, e_sh1, e_sh2, e_sh3, e_sh4, e_tls, e_tln, e_tl0, e_tl1, cl_82, q_N_isHouse, q_N_in, q_N_dryOf, Nat.reduceAdd, true_and, and_true, true_implies, not_true_eq_false, false_implies, not_false_eq_true, imp_self, forall_const, List.append_nil, ra_I, ra_J, ra_pad, true_or, or_true, Nat.reduceEqDiff, ra_bz, eq_self, if_true, if_false, false_and, and_false, Nat.zero_le, List.cons_append, List.nil_append, Nat.reduceLT, Nat.reduceLeDiff, Nat.reduceMul, Nat.reduceSub, n_0, n_1, n_2, n_3, n_4, n_5, n_6, n_7, n_8, n_9, n_10, n_12, n_40, n_48, n_57, n_59, n_72, n_99, n_102, n_103, n_107, n_108, n_192, n_255, n_256, n_999, n_1000, n_104, nI_add, pk_mul, n_cl, n_in, n_le, n_lt, n_eq, n_m1, n_m1', n_lem1, n_m1le, n_ltm1, n_m1lt, n_lepred, n_shl, fa_or]
  refine ⟨hR.1, fun σ' g1 g2 => ?_⟩
  have no : ¬ (an_hs a x ∧ an_in y 99 ∧ an_in w 1) → Z (some (.int (-2))) σ' := by
    intro q
    have h9 := hZ σ' (g2.mono (by decide))
    rw [an_dry_no q] at h9
    exact h9
  refine ⟨fun q => ⟨fun q2 => ⟨fun q3 => ⟨hR.fr g2 (by decide), q, q2, fun σ'' g3 g4 => ?_⟩, fun q3 => no (fun z => q3 z.2.2)⟩, fun q2 => no (fun z => q2 z.2.1)⟩, fun q => no (fun z => q z.1)⟩
  have h9 := hZ σ'' ((g2.mono (by decide)).tr g4 (by decide))
  rw [an_dry_yes ⟨q, q2, q3⟩] at h9
  exact h9
