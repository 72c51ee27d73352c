def kn_clr (m r : Nat) : Nat := m &&& (255 ^^^ 2 ^ r)
theorem kn_andnot : ∀ m, m < 256 → ∀ r, r < 8 → nI m &&& (nI (2 ^ r) ^^^ -nI 1) = nI (kn_clr m r) := by decide +kernel
theorem kn_clr_lt {m r : Nat} (h : m < 256) : kn_clr m r < 256 := Nat.lt_of_le_of_lt Nat.and_le_left h
theorem kn_clr_bit : ∀ r, r < 8 → ∀ i, i < 8 → (255 ^^^ 2 ^ r).testBit i = !decide (i = r) := by decide +kernel
theorem kn_clr_tb {m r i : Nat} (hr : r < 8) (hi : i < 8) : (kn_clr m r).testBit i = (m.testBit i && !decide (i = r)) := by
  unfold kn_clr
  rw [Nat.testBit_and, kn_clr_bit r hr i hi]
def kn_there (a : Ab) (k : Nat) : Prop := a 8 k < ab_hc a ∧ a 9 k < ab_hc a
def ab_may (a : Ab) : Nat → Nat → Nat
  | 0, _ => 2 ^ ab_hc a - 1
  | k + 1, h => if a 10 k = 1 then (if a 8 k < ab_hc a ∧ a 9 k < ab_hc a then (if h = a 8 k then ab_may a k h &&& 2 ^ a 9 k else kn_clr (ab_may a k h) (a 9 k)) else 0) else (if (a 8 k < ab_hc a ∧ a 9 k < ab_hc a) ∧ h = a 8 k then kn_clr (ab_may a k h) (a 9 k) else ab_may a k h)
theorem ab_may_lt {a : Ab} : ∀ k h, ab_may a k h < 256
  | 0, h => by
    have := pow_256 a
    rw [ab_may]
    omega
  | k + 1, h => by
    have ih := ab_may_lt (a := a) k h
    rw [ab_may]
    split
    · split
      · split
        · exact Nat.lt_of_le_of_lt Nat.and_le_left ih
        · exact kn_clr_lt ih
      · omega
    · split
      · exact kn_clr_lt ih
      · exact ih
def rn_may (a : Ab) (σ : ra_St) : Prop := ∀ h, h < ab_hc a → σ 106 h = nI (ab_may a (a 7 0) h)
def sp_N_laysMay (a : Ab) : ra_Sp := ra_f0 82 (fun σ Z => rn_R a σ ∧ ∀ σ', rn_P a σ' → rn_may a σ' → ra_fr rn_scr σ σ' → Z none σ')
theorem q_N_laysMay {a : Ab} {oo : Nat} {σ : ra_St} {Z : ra_R} : sp_N_laysMay a [.ref oo] σ Z = (oo = 82 ∧ (rn_R a σ ∧ ∀ σ', rn_P a σ' → rn_may a σ' → ra_fr rn_scr σ σ' → Z none σ')) := rfl
def I_N_laysMay (a : Ab) (Z : ra_R) (as : List Value) (σ0 : ra_St) (t : Nat) (μ : ra_M) : ra_K := fun L S σ => S = [] ∧ as = [.ref 82] ∧ ∃ (h k s : Nat) (u v w : Value), rn_R a σ ∧ rn_P a σ ∧ ra_fr rn_scr σ0 σ ∧ h ≤ ab_hc a ∧ k ≤ a 7 0 ∧
  match t with
  | 6 => μ = (20, 0, ab_hc a - h) ∧ (∀ j, j < h → σ 106 j = nI (ab_may a 0 j)) ∧ L = [.ref 82, .int (nI h), u, v, w]
  | 36 => μ = (a 7 0 - k, 1, 0) ∧ (∀ j, j < ab_hc a → σ 106 j = nI (ab_may a k j)) ∧ L = [.ref 82, .int (nI k), u, v, w]
  | _ => μ = (a 7 0 - k, 0, ab_hc a - h) ∧ k < a 7 0 ∧ (∀ j, j < ab_hc a → σ 106 j = nI (if a 10 k = 1 ∧ h ≤ j then ab_may a k j else ab_may a (k + 1) j)) ∧ s ≤ 1 ∧ (s = 1 ↔ (a 8 k < ab_hc a ∧ a 9 k < ab_hc a)) ∧ L = [.ref 82, .int (nI k), .int (nI s), .int (nI h), w]
theorem k_N_laysMay {l : Launch} {X : ra_X} {a : Ab} (hW : ab_W a) : ra_MOK l X mi_N_laysMay (sp_N_laysMay a) := by
  have h8 := ab_hc_8 a
  obtain ⟨p1, p2⟩ := pow_256 a
  have hf12 := hW.2.2.2.2.2.2.2.2.2.2.1
  refine g_N_laysMay (k_N_reads hW) (sp_N_laysMay a) (I_N_laysMay a) ?_ ?_ ?_ ?_
  · intro as σ Z _ _ h
    obtain ⟨rfl, hR, hZ⟩ := x_f0 h
    simp only [b_N_laysMay_205, b_N_laysMay_199, b_N_laysMay_191, b_N_laysMay_181, b_N_laysMay_170, b_N_laysMay_165, b_N_laysMay_161, b_N_laysMay_148, b_N_laysMay_147, b_N_laysMay_143, b_N_laysMay_133, b_N_laysMay_123, b_N_laysMay_115, b_N_laysMay_113, b_N_laysMay_89, b_N_laysMay_80, b_N_laysMay_75, b_N_laysMay_74, b_N_laysMay_70, b_N_laysMay_57, b_N_laysMay_44, b_N_laysMay_36, b_N_laysMay_34, b_N_laysMay_14, b_N_laysMay_6, b_N_laysMay_0, e_al0, e_il1, e_il4, e_il3, e_il2, e_is4i, e_is4r, e_is4n, e_is3i, e_is3r, e_is3n, e_is2i, e_is2r, e_is2n, e_is1i, e_is1r, e_is1n, e_inc1i, e_inc1r, e_inc1n, e_inc3i, e_inc3r, e_inc3n, e_c, e_i2, e_dup2, e_b1, e_b2, e_gi, e_gr, e_ald, e_ast, e_vr, e_cv1, e_hd, e_c10, e_c1i, e_c1r, e_sh0, e_sh1, e_sh2, e_sh3, e_sh4, e_tls, e_tln, e_tl0, e_tl1, cl_82, cl_103, ln_103, cl_104, ln_104, cl_105, ln_105, cl_106, ln_106, tg_82_23, tg_82_24, tg_82_25, tg_82_26, q_N_reads, Nat.reduceAdd, true_and, and_true, true_implies, not_true_eq_false, false_implies, not_false_eq_true, imp_self, forall_const, List.append_nil, ra_I, ra_J, ra_pad, true_or, or_true, Nat.reduceEqDiff, ra_bz, eq_self, if_true, if_false, false_and, and_false, Nat.zero_le, List.cons_append, List.nil_append, Nat.reduceLT, Nat.reduceLeDiff, Nat.reduceMul, Nat.reduceSub]
    exact ⟨hR.1, fun σ1 hP hf => ⟨_, rfl, rfl, 0, 0, 0, _, _, _, hR.fr hf (by decide), hP, hf.mono (by decide), by omega, by omega, rfl, fun j hj => by omega, rfl⟩⟩
  · -- 6
    intro as σ0 Z h0 μ L S σ hI
    obtain ⟨rfl, rfl, h, k, s, u, v, w, hR, hP, hf, hh, hk, rfl, hq, rfl⟩ := hI
    simp (disch := omega) only [b_N_laysMay_205, b_N_laysMay_199, b_N_laysMay_191, b_N_laysMay_181, b_N_laysMay_170, b_N_laysMay_165, b_N_laysMay_161, b_N_laysMay_148, b_N_laysMay_147, b_N_laysMay_143, b_N_laysMay_133, b_N_laysMay_123, b_N_laysMay_115, b_N_laysMay_113, b_N_laysMay_89, b_N_laysMay_80, b_N_laysMay_75, b_N_laysMay_74, b_N_laysMay_70, b_N_laysMay_57, b_N_laysMay_44, b_N_laysMay_36, b_N_laysMay_34, b_N_laysMay_14, b_N_laysMay_6, b_N_laysMay_0, e_al0, e_il1, e_il4, e_il3, e_il2, e_is4i, e_is4r, e_is4n, e_is3i, e_is3r, e_is3n, e_is2i, e_is2r, e_is2n, e_is1i, e_is1r, e_is1n, e_inc1i, e_inc1r, e_inc1n, e_inc3i, e_inc3r, e_inc3n, e_c, e_i2, e_dup2, e_b1, e_b2, e_gi, e_gr, e_ald, e_ast, e_vr, e_cv1, e_hd, e_c10, e_c1i, e_c1r, e_sh0, e_sh1, e_sh2, e_sh3, e_sh4, e_tls, e_tln, e_tl0, e_tl1, cl_82, cl_103, ln_103, cl_104, ln_104, cl_105, ln_105, cl_106, ln_106, tg_82_23, tg_82_24, tg_82_25, tg_82_26, q_N_reads, Nat.reduceAdd, true_and, and_true, true_implies, not_true_eq_false, false_implies, not_false_eq_true, imp_self, forall_const, List.append_nil, ra_I, ra_J, ra_pad, true_or, or_true, Nat.reduceEqDiff, ra_bz, eq_self, if_true, if_false, false_and, and_false, Nat.zero_le, List.cons_append, List.nil_append, Nat.reduceLT, Nat.reduceLeDiff, Nat.reduceMul, Nat.reduceSub, n_0, n_1, n_2, n_3, n_4, n_5, n_6, n_7, n_8, n_9, n_10, n_12, n_40, n_48, n_57, n_59, n_72, n_99, n_102, n_103, n_107, n_108, n_192, n_255, n_256, n_999, n_1000, n_104, nI_add, pk_mul, n_cl, n_inT, n_le, n_lt, n_eq, n_m1, n_m1', n_lem1, n_m1le, n_ltm1, n_m1lt, n_lepred, n_shl, fa_or, hP.1.1, n_sub]
    refine ⟨fun z => ⟨(a 7 0 - 0, 1, 0), lx1 (by omega), rfl, rfl, h, 0, s, u, v, w, hR, hP, hf, hh, by omega, rfl, fun j hj => hq j (by omega), rfl⟩, fun z => ?_⟩
    have hf1 : ra_fr [106] σ (ra_sw σ 106 h (nI (2 ^ ab_hc a - 1))) := ra_fr.rf.sw (by decide) (by decide)
    refine ⟨(20, 0, ab_hc a - (h + 1)), lx3 (by omega), rfl, rfl, h + 1, k, s, u, v, w, hR.fr hf1 (by decide), hP.fr hf1 (by simp [sw_at]) (by decide), hf.tr hf1 (by decide), by omega, hk, rfl, fun j hj => ?_, rfl⟩
    rw [sw_at, if_pos rfl]
    split
    · rfl
    · exact hq j (by omega)
  · -- 36
    intro as σ0 Z h0 μ L S σ hI
    obtain ⟨rfl, rfl, h, k, s, u, v, w, hR, hP, hf, hh, hk, rfl, hq, rfl⟩ := hI
    obtain ⟨-, hR0, hZ⟩ := x_f0 h0
    by_cases hlt : k < a 7 0
    · obtain ⟨f1, f2, f3⟩ := hR.2.2.2.2.2.2.2 k hlt
      have b1 := hW.2.2.2.2.2.2.2.2.2.2.2.1 k
      have b2 := hW.2.2.2.2.2.2.2.2.2.2.2.2.1 k
      have b3 := hW.2.2.2.2.2.2.2.2.2.2.2.2.2 k
      have hm := ab_may_lt (a := a) k (a 8 k)
      have to : ∀ (s : Nat) (σ' : ra_St), s ≤ 1 → (s = 1 ↔ (a 8 k < ab_hc a ∧ a 9 k < ab_hc a)) → (∀ j, j < ab_hc a → σ' 106 j = nI (if a 10 k = 1 then ab_may a k j else ab_may a (k + 1) j)) → rn_R a σ' → rn_P a σ' → ra_fr rn_scr σ0 σ' → ∃ μ', ra_lx μ' (a 7 0 - k, 1, 0) ∧ I_N_laysMay a Z [.ref 82] σ0 115 μ' [.ref 82, .int (nI k), .int (nI s), .int (nI 0), w] [] σ' := by
        intro s σ' h1 h2 h3 h4 h5 h6
        refine ⟨(a 7 0 - k, 0, ab_hc a - 0), lx2 (by omega), rfl, rfl, 0, k, s, u, v, w, h4, h5, h6, by omega, hk, rfl, hlt, fun j hj => ?_, h1, h2, rfl⟩
        rw [h3 j hj]
        by_cases e : a 10 k = 1
        · rw [if_pos e, if_pos ⟨e, Nat.zero_le _⟩]
        · rw [if_neg e, if_neg (fun y => e y.1)]
      have same : (a 10 k = 1 ∨ ¬ (a 8 k < ab_hc a ∧ a 9 k < ab_hc a)) → ∀ j, j < ab_hc a → σ 106 j = nI (if a 10 k = 1 then ab_may a k j else ab_may a (k + 1) j) := by
        intro h1 j hj
        by_cases e : a 10 k = 1
        · rw [if_pos e]
          exact hq j hj
        · rw [if_neg e, ab_may, if_neg e, if_neg (fun y => by rcases h1 with z | z; exact e z; exact z y.1)]
          exact hq j hj
      simp (disch := omega) only [b_N_laysMay_205, b_N_laysMay_199, b_N_laysMay_191, b_N_laysMay_181, b_N_laysMay_170, b_N_laysMay_165, b_N_laysMay_161, b_N_laysMay_148, b_N_laysMay_147, b_N_laysMay_143, b_N_laysMay_133, b_N_laysMay_123, b_N_laysMay_115, b_N_laysMay_113, b_N_laysMay_89, b_N_laysMay_80, b_N_laysMay_75, b_N_laysMay_74, b_N_laysMay_70, b_N_laysMay_57, b_N_laysMay_44, b_N_laysMay_36, b_N_laysMay_34, b_N_laysMay_14, b_N_laysMay_6, b_N_laysMay_0, e_al0, e_il1, e_il4, e_il3, e_il2, e_is4i, e_is4r, e_is4n, e_is3i, e_is3r, e_is3n, e_is2i, e_is2r, e_is2n, e_is1i, e_is1r, e_is1n, e_inc1i, e_inc1r, e_inc1n, e_inc3i, e_inc3r, e_inc3n, e_c, e_i2, e_dup2, e_b1, e_b2, e_gi, e_gr, e_ald, e_ast, e_vr, e_cv1, e_hd, e_c10, e_c1i, e_c1r, e_sh0, e_sh1, e_sh2, e_sh3, e_sh4, e_tls, e_tln, e_tl0, e_tl1, cl_82, cl_103, ln_103, cl_104, ln_104, cl_105, ln_105, cl_106, ln_106, tg_82_23, tg_82_24, tg_82_25, tg_82_26, q_N_reads, Nat.reduceAdd, true_and, and_true, true_implies, not_true_eq_false, false_implies, not_false_eq_true, imp_self, forall_const, List.append_nil, ra_I, ra_J, ra_pad, true_or, or_true, Nat.reduceEqDiff, ra_bz, eq_self, if_true, if_false, false_and, and_false, Nat.zero_le, List.cons_append, List.nil_append, Nat.reduceLT, Nat.reduceLeDiff, Nat.reduceMul, Nat.reduceSub, n_0, n_1, n_2, n_3, n_4, n_5, n_6, n_7, n_8, n_9, n_10, n_12, n_40, n_48, n_57, n_59, n_72, n_99, n_102, n_103, n_107, n_108, n_192, n_255, n_256, n_999, n_1000, n_104, nI_add, pk_mul, n_cl, n_inT, n_le, n_lt, n_eq, n_m1, n_m1', n_lem1, n_m1le, n_ltm1, n_m1lt, n_lepred, n_shl, fa_or, hP.1.1, hR.2.2.2.2.2.2.1, f1, f2, f3]
      refine ⟨fun z => by omega, fun _ => ⟨fun z => to 0 σ (by omega) ⟨fun y => by omega, fun y => by omega⟩ (same (Or.inr (fun y => by omega))) hR hP hf, fun z => ⟨fun z2 => to 0 σ (by omega) ⟨fun y => by omega, fun y => by omega⟩ (same (Or.inr (fun y => by omega))) hR hP hf, fun z2 => ⟨fun z3 => ?_, fun z3 => to 1 σ (by omega) ⟨fun _ => by omega, fun _ => rfl⟩ (same (Or.inl (by omega))) hR hP hf⟩⟩⟩⟩
      rw [hq (a 8 k) (by omega), kn_andnot _ hm _ b2]
      have hf1 : ra_fr [106] σ (ra_sw σ 106 (a 8 k) (nI (kn_clr (ab_may a k (a 8 k)) (a 9 k)))) := ra_fr.rf.sw (by decide) (by decide)
      refine to 1 _ (by omega) ⟨fun _ => by omega, fun _ => rfl⟩ (fun j hj => ?_) (hR.fr hf1 (by decide)) (hP.fr hf1 (by simp [sw_at]) (by decide)) (hf.tr hf1 (by decide))
      rw [sw_at, if_pos rfl, if_neg (show ¬ a 10 k = 1 by omega), ab_may, if_neg (show ¬ a 10 k = 1 by omega)]
      by_cases e : j = a 8 k
      · rw [if_pos e, if_pos ⟨by omega, e⟩, e]
      · rw [if_neg e, if_neg (fun y => e y.2)]
        exact hq j hj
    · simp (disch := omega) only [b_N_laysMay_205, b_N_laysMay_199, b_N_laysMay_191, b_N_laysMay_181, b_N_laysMay_170, b_N_laysMay_165, b_N_laysMay_161, b_N_laysMay_148, b_N_laysMay_147, b_N_laysMay_143, b_N_laysMay_133, b_N_laysMay_123, b_N_laysMay_115, b_N_laysMay_113, b_N_laysMay_89, b_N_laysMay_80, b_N_laysMay_75, b_N_laysMay_74, b_N_laysMay_70, b_N_laysMay_57, b_N_laysMay_36, b_N_laysMay_34, b_N_laysMay_14, b_N_laysMay_6, b_N_laysMay_0, e_al0, e_il1, e_il4, e_il3, e_il2, e_is4i, e_is4r, e_is4n, e_is3i, e_is3r, e_is3n, e_is2i, e_is2r, e_is2n, e_is1i, e_is1r, e_is1n, e_inc1i, e_inc1r, e_inc1n, e_inc3i, e_inc3r, e_inc3n, e_c, e_i2, e_dup2, e_b1, e_b2, e_gi, e_gr, e_ald, e_ast, e_vr, e_cv1, e_hd, e_c10, e_c1i, e_c1r, e_sh0, e_sh1, e_sh2, e_sh3, e_sh4, e_tls, e_tln, e_tl0, e_tl1, cl_82, cl_103, ln_103, cl_104, ln_104, cl_105, ln_105, cl_106, ln_106, tg_82_23, tg_82_24, tg_82_25, tg_82_26, q_N_reads, Nat.reduceAdd, true_and, and_true, true_implies, not_true_eq_false, false_implies, not_false_eq_true, imp_self, forall_const, List.append_nil, ra_I, ra_J, ra_pad, true_or, or_true, Nat.reduceEqDiff, ra_bz, eq_self, if_true, if_false, false_and, and_false, Nat.zero_le, List.cons_append, List.nil_append, Nat.reduceLT, Nat.reduceLeDiff, Nat.reduceMul, Nat.reduceSub, n_0, n_1, n_2, n_3, n_4, n_5, n_6, n_7, n_8, n_9, n_10, n_12, n_40, n_48, n_57, n_59, n_72, n_99, n_102, n_103, n_107, n_108, n_192, n_255, n_256, n_999, n_1000, n_104, nI_add, pk_mul, n_cl, n_inT, n_le, n_lt, n_eq, n_m1, n_m1', n_lem1, n_m1le, n_ltm1, n_m1lt, n_lepred, n_shl, fa_or, hR.2.2.2.2.2.2.1]
      refine ⟨fun z => hZ σ hP (fun j hj => ?_) hf, fun z => by omega⟩
      rw [hq j hj, show k = a 7 0 by omega]
  · -- 115
    intro as σ0 Z h0 μ L S σ hI
    obtain ⟨rfl, rfl, h, k, s, u, v, w, hR, hP, hf, hh, hk, rfl, hk2, hq, hs1, hs, rfl⟩ := hI
    obtain ⟨f1, f2, f3⟩ := hR.2.2.2.2.2.2.2 k hk2
    have b1 := hW.2.2.2.2.2.2.2.2.2.2.2.1 k
    have b2 := hW.2.2.2.2.2.2.2.2.2.2.2.2.1 k
    have b3 := hW.2.2.2.2.2.2.2.2.2.2.2.2.2 k
    have next : (h = ab_hc a ∨ a 10 k ≠ 1) → ∀ v, ∃ μ', ra_lx μ' (a 7 0 - k, 0, ab_hc a - h) ∧ I_N_laysMay a Z [.ref 82] σ0 36 μ' [.ref 82, .int (nI (k + 1)), .int (nI s), .int v, w] [] σ := by
      intro h1 v
      refine ⟨(a 7 0 - (k + 1), 1, 0), lx1 (by omega), rfl, rfl, h, k + 1, s, _, _, _, hR, hP, hf, hh, by omega, rfl, fun j hj => ?_, rfl⟩
      rw [hq j hj, if_neg (fun y => by omega)]
    by_cases hgo : h < ab_hc a ∧ a 10 k = 1
    · obtain ⟨hlt, his⟩ := hgo
      have hm := ab_may_lt (a := a) k h
      have hqh := hq h hlt
      rw [if_pos ⟨his, Nat.le_refl _⟩] at hqh
      have fin : ∀ (y : Nat) (w' : Int32), y = ab_may a (k + 1) h → ∃ μ', ra_lx μ' (a 7 0 - k, 0, ab_hc a - h) ∧ I_N_laysMay a Z [.ref 82] σ0 115 μ' [.ref 82, .int (nI k), .int (nI s), .int (nI (h + 1)), .int w'] [] (ra_sw σ 106 h (nI y)) := by
        intro y w' hy
        have hf1 : ra_fr [106] σ (ra_sw σ 106 h (nI y)) := ra_fr.rf.sw (by decide) (by decide)
        refine ⟨(a 7 0 - k, 0, ab_hc a - (h + 1)), lx3 (by omega), rfl, rfl, h + 1, k, s, u, v, _, hR.fr hf1 (by decide), hP.fr hf1 (by simp [sw_at]) (by decide), hf.tr hf1 (by decide), by omega, hk, rfl, hk2, fun j hj => ?_, hs1, hs, rfl⟩
        rw [sw_at, if_pos rfl]
        by_cases e : j = h
        · rw [if_pos e, if_neg (fun z => by omega), hy, e]
        · rw [if_neg e, hq j hj]
          by_cases e2 : h ≤ j
          · rw [if_pos ⟨his, e2⟩, if_pos ⟨his, by omega⟩]
          · rw [if_neg (fun z => e2 z.2), if_neg (fun z => by omega)]
      have em : ab_may a (k + 1) h = if a 8 k < ab_hc a ∧ a 9 k < ab_hc a then (if h = a 8 k then ab_may a k h &&& 2 ^ a 9 k else kn_clr (ab_may a k h) (a 9 k)) else 0 := by rw [ab_may, if_pos his]
      have z0 : nI (ab_may a k h) &&& nI 0 = nI 0 := by rw [fa_and, Nat.and_zero]
      simp (disch := omega) only [b_N_laysMay_205, b_N_laysMay_199, b_N_laysMay_191, b_N_laysMay_181, b_N_laysMay_170, b_N_laysMay_165, b_N_laysMay_161, b_N_laysMay_148, b_N_laysMay_147, b_N_laysMay_143, b_N_laysMay_133, b_N_laysMay_123, b_N_laysMay_115, b_N_laysMay_113, b_N_laysMay_89, b_N_laysMay_80, b_N_laysMay_75, b_N_laysMay_74, b_N_laysMay_70, b_N_laysMay_57, b_N_laysMay_44, b_N_laysMay_36, b_N_laysMay_34, b_N_laysMay_14, b_N_laysMay_6, b_N_laysMay_0, e_al0, e_il1, e_il4, e_il3, e_il2, e_is4i, e_is4r, e_is4n, e_is3i, e_is3r, e_is3n, e_is2i, e_is2r, e_is2n, e_is1i, e_is1r, e_is1n, e_inc1i, e_inc1r, e_inc1n, e_inc3i, e_inc3r, e_inc3n, e_c, e_i2, e_dup2, e_b1, e_b2, e_gi, e_gr, e_ald, e_ast, e_vr, e_cv1, e_hd, e_c10, e_c1i, e_c1r, e_sh0, e_sh1, e_sh2, e_sh3, e_sh4, e_tls, e_tln, e_tl0, e_tl1, cl_82, cl_103, ln_103, cl_104, ln_104, cl_105, ln_105, cl_106, ln_106, tg_82_23, tg_82_24, tg_82_25, tg_82_26, q_N_reads, Nat.reduceAdd, true_and, and_true, true_implies, not_true_eq_false, false_implies, not_false_eq_true, imp_self, forall_const, List.append_nil, ra_I, ra_J, ra_pad, true_or, or_true, Nat.reduceEqDiff, ra_bz, eq_self, if_true, if_false, false_and, and_false, Nat.zero_le, List.cons_append, List.nil_append, Nat.reduceLT, Nat.reduceLeDiff, Nat.reduceMul, Nat.reduceSub, n_0, n_1, n_2, n_3, n_4, n_5, n_6, n_7, n_8, n_9, n_10, n_12, n_40, n_48, n_57, n_59, n_72, n_99, n_102, n_103, n_107, n_108, n_192, n_255, n_256, n_999, n_1000, n_104, nI_add, pk_mul, n_cl, n_inT, n_le, n_lt, n_eq, n_m1, n_m1', n_lem1, n_m1le, n_ltm1, n_m1lt, n_lepred, n_shl, fa_or, hP.1.1, f1, f2, f3, hqh, z0, kn_andnot _ hm _ b2, fa_and]
      refine ⟨fun z => by omega, fun _ => ⟨fun _ => ⟨fun z => ⟨fun z2 => fin 0 _ ?_, fun z2 => fin _ _ ?_⟩, fun z => ⟨fun z2 => fin 0 _ ?_, fun z2 => fin _ _ ?_⟩⟩, fun z => absurd his z⟩⟩
      · rw [em, if_neg (fun y => by have := hs.mpr y; omega)]
      · rw [em, if_pos (hs.mp (by omega)), if_pos z]
      · rw [em, if_neg (fun y => by have := hs.mpr y; omega)]
      · rw [em, if_pos (hs.mp (by omega)), if_neg z]
    · simp (disch := omega) only [b_N_laysMay_205, b_N_laysMay_199, b_N_laysMay_191, b_N_laysMay_181, b_N_laysMay_170, b_N_laysMay_165, b_N_laysMay_161, b_N_laysMay_148, b_N_laysMay_147, b_N_laysMay_143, b_N_laysMay_123, b_N_laysMay_115, b_N_laysMay_113, b_N_laysMay_89, b_N_laysMay_80, b_N_laysMay_75, b_N_laysMay_74, b_N_laysMay_70, b_N_laysMay_57, b_N_laysMay_44, b_N_laysMay_36, b_N_laysMay_34, b_N_laysMay_14, b_N_laysMay_6, b_N_laysMay_0, e_al0, e_il1, e_il4, e_il3, e_il2, e_is4i, e_is4r, e_is4n, e_is3i, e_is3r, e_is3n, e_is2i, e_is2r, e_is2n, e_is1i, e_is1r, e_is1n, e_inc1i, e_inc1r, e_inc1n, e_inc3i, e_inc3r, e_inc3n, e_c, e_i2, e_dup2, e_b1, e_b2, e_gi, e_gr, e_ald, e_ast, e_vr, e_cv1, e_hd, e_c10, e_c1i, e_c1r, e_sh0, e_sh1, e_sh2, e_sh3, e_sh4, e_tls, e_tln, e_tl0, e_tl1, cl_82, cl_103, ln_103, cl_104, ln_104, cl_105, ln_105, cl_106, ln_106, tg_82_23, tg_82_24, tg_82_25, tg_82_26, q_N_reads, Nat.reduceAdd, true_and, and_true, true_implies, not_true_eq_false, false_implies, not_false_eq_true, imp_self, forall_const, List.append_nil, ra_I, ra_J, ra_pad, true_or, or_true, Nat.reduceEqDiff, ra_bz, eq_self, if_true, if_false, false_and, and_false, Nat.zero_le, List.cons_append, List.nil_append, Nat.reduceLT, Nat.reduceLeDiff, Nat.reduceMul, Nat.reduceSub, n_0, n_1, n_2, n_3, n_4, n_5, n_6, n_7, n_8, n_9, n_10, n_12, n_40, n_48, n_57, n_59, n_72, n_99, n_102, n_103, n_107, n_108, n_192, n_255, n_256, n_999, n_1000, n_104, nI_add, pk_mul, n_cl, n_inT, n_le, n_lt, n_eq, n_m1, n_m1', n_lem1, n_m1le, n_ltm1, n_m1lt, n_lepred, n_shl, fa_or, hP.1.1, f3]
      exact ⟨fun z => next (by omega) _, fun z => ⟨fun z2 => by omega, fun z2 => next (Or.inr z2) _⟩⟩
/-! ways -/
/-- in how many ways the first k houses take just these roofs -/
def fw (N : Nat) (c : Nat → Nat → Bool) : Nat → Nat → Nat
  | 0, t => if t = 0 then 1 else 0
  | k + 1, t => fb_sm (fun r => if t.testBit r = true ∧ c k r = true then fw N c k (t ^^^ 2 ^ r) else 0) N
theorem fw_le {N : Nat} {c : Nat → Nat → Bool} (hN : N ≤ 8) : ∀ k t, fw N c k t ≤ 8 ^ k
  | 0, t => by
    rw [fw]
    split <;> simp
  | k + 1, t => by
    rw [fw]
    have h1 := fb_sm_bound (f := fun r => if t.testBit r = true ∧ c k r = true then fw N c k (t ^^^ 2 ^ r) else 0) (c := 8 ^ k) (n := N) (fun r _ => by
      show (if _ then _ else _) ≤ _
      split
      · exact fw_le hN k _
      · exact Nat.zero_le _)
    have h2 : N * 8 ^ k ≤ 8 * 8 ^ k := Nat.mul_le_mul_right _ hN
    rw [Nat.pow_succ, Nat.mul_comm (8 ^ k) 8]
    omega
theorem xb_self {t r : Nat} (h : t.testBit r = true) : (t ^^^ 2 ^ r).testBit r = false := by
  rw [fb_bit_flip, h]
  simp
theorem xb_or {t r : Nat} (h : t.testBit r = true) : (t ^^^ 2 ^ r) ||| 2 ^ r = t := by
  apply Nat.eq_of_testBit_eq
  intro i
  rw [n_tb_or, fb_bit_flip]
  by_cases e : i = r
  · subst e
    rw [h]
    simp
  · simp [e]
theorem xb_of {s r : Nat} (h : s.testBit r = false) : (s ||| 2 ^ r) ^^^ 2 ^ r = s ∧ (s ||| 2 ^ r).testBit r = true := by
  refine ⟨?_, by rw [n_tb_or]; simp⟩
  apply Nat.eq_of_testBit_eq
  intro i
  rw [fb_bit_flip, n_tb_or]
  by_cases e : i = r
  · subst e
    rw [h]
    simp
  · simp [e]
theorem xb_pop {t r : Nat} (hr : r < 8) (h : t.testBit r = true) : n_pop t = n_pop (t ^^^ 2 ^ r) + 1 := by
  have := n_pop_set hr (xb_self h)
  rw [xb_or h] at this
  exact this
theorem xb_lt {t r : Nat} (h : t.testBit r = true) : t ^^^ 2 ^ r < t := by
  have h1 : t ^^^ 2 ^ r ≤ t := Nat.le_of_testBit (fun i hi => by
    by_cases e : i = r
    · rw [e]
      exact h
    · rw [fb_bit_flip, decide_eq_false e] at hi
      simpa using hi)
  have h2 : t ^^^ 2 ^ r ≠ t := by
    intro q
    have := xb_self h
    rw [q, h] at this
    cases this
  omega
theorem pop_0 : n_pop 0 = 0 := fb_ct_zero.mpr (fun k _ => Nat.zero_testBit k)
theorem pop_pos {t N : Nat} (hN : N ≤ 8) (ht : t < 2 ^ N) (h0 : t ≠ 0) : ∃ k, n_pop t = k + 1 := by
  have : n_pop t ≠ 0 := by
    intro q
    apply h0
    apply Nat.eq_of_testBit_eq
    intro i
    rw [Nat.zero_testBit]
    by_cases hi : i < 8
    · exact fb_ct_zero.mp q i hi
    · exact Nat.testBit_lt_two_pow (Nat.lt_of_lt_of_le ht (Nat.pow_le_pow_right (by decide) (by omega)))
  exact ⟨n_pop t - 1, by omega⟩
def kF (N : Nat) (c : Nat → Nat → Bool) (t : Nat) : Nat := fw N c (n_pop t) t
/-- what is pushed to t so far: by all sets below s, and by s itself up to roof r -/
def kq (N : Nat) (c : Nat → Nat → Bool) (s r t : Nat) : Nat := if t = 0 then 1 else fb_sm (fun i => if t.testBit i = true ∧ c (n_pop t - 1) i = true ∧ (t ^^^ 2 ^ i < s ∨ (t ^^^ 2 ^ i = s ∧ i < r)) then kF N c (t ^^^ 2 ^ i) else 0) N
theorem kq_0 (N : Nat) (c : Nat → Nat → Bool) (t : Nat) : kq N c 0 0 t = if t = 0 then 1 else 0 := by
  unfold kq
  split
  · rfl
  · have h := fb_sm_cong (n := N) (f := fun i => if t.testBit i = true ∧ c (n_pop t - 1) i = true ∧ (t ^^^ 2 ^ i < 0 ∨ (t ^^^ 2 ^ i = 0 ∧ i < 0)) then kF N c (t ^^^ 2 ^ i) else 0) (g := fun _ => 0) (fun k _ => if_neg (by omega))
    rw [h, fb_sm_const]
    rfl
theorem kq_full {N : Nat} {c : Nat → Nat → Bool} (hN : N ≤ 8) {s t : Nat} (ht : t < 2 ^ N) (hs : t ≤ s) : kq N c s 0 t = kF N c t := by
  unfold kq
  split
  · next h =>
    subst h
    unfold kF
    rw [pop_0]
    rfl
  · next h =>
    obtain ⟨k, hk⟩ := pop_pos hN ht h
    unfold kF
    rw [hk, fw]
    refine fb_sm_cong (fun i hi => ?_)
    show (if _ then _ else _) = (if _ then _ else _)
    by_cases hb : t.testBit i = true
    · have h1 := xb_lt hb
      have h2 := xb_pop (by omega) hb
      by_cases hc : c k i = true
      · rw [if_pos ⟨hb, by rw [show k + 1 - 1 = k by omega]; exact hc, Or.inl (by omega)⟩, if_pos ⟨hb, hc⟩]
        rw [show n_pop (t ^^^ 2 ^ i) = k by omega]
      · rw [if_neg (fun y => hc (by have := y.2.1; rw [show k + 1 - 1 = k by omega] at this; exact this)), if_neg (fun y => hc y.2)]
    · rw [if_neg (fun y => hb y.1), if_neg (fun y => hb y.1)]
theorem kq_same {N : Nat} {c : Nat → Nat → Bool} {s r t : Nat} (h : ¬ (t.testBit r = true ∧ c (n_pop t - 1) r = true ∧ t ^^^ 2 ^ r = s)) : kq N c s (r + 1) t = kq N c s r t := by
  unfold kq
  split
  · rfl
  · refine fb_sm_cong (fun i hi => ?_)
    show (if _ then _ else _) = (if _ then _ else _)
    by_cases e : t.testBit i = true ∧ c (n_pop t - 1) i = true ∧ (t ^^^ 2 ^ i < s ∨ (t ^^^ 2 ^ i = s ∧ i < r))
    · rw [if_pos e, if_pos ⟨e.1, e.2.1, by omega⟩]
    · rw [if_neg e, if_neg (fun y => ?_)]
      apply e
      refine ⟨y.1, y.2.1, ?_⟩
      rcases y.2.2 with z | z
      · exact Or.inl z
      · rcases (show i < r ∨ i = r by omega) with w | rfl
        · exact Or.inr ⟨z.1, w⟩
        · exact absurd ⟨y.1, y.2.1, z.1⟩ h
theorem kq_push {N : Nat} {c : Nat → Nat → Bool} (hN : N ≤ 8) {s r : Nat} (hr : r < N) (hs : s.testBit r = false) (hc : c (n_pop s) r = true) : kq N c s (r + 1) (s ||| 2 ^ r) = kq N c s r (s ||| 2 ^ r) + kF N c s := by
  obtain ⟨e1, e2⟩ := xb_of hs
  have hp := n_pop_set (s := s) (r := r) (by omega) hs
  have h0 : s ||| 2 ^ r ≠ 0 := by
    intro q
    rw [q, Nat.zero_testBit] at e2
    cases e2
  unfold kq
  rw [if_neg h0, if_neg h0, hp, show n_pop s + 1 - 1 = n_pop s by omega]
  have h1 := fb_sm_upd (fun i => if (s ||| 2 ^ r).testBit i = true ∧ c (n_pop s) i = true ∧ ((s ||| 2 ^ r) ^^^ 2 ^ i < s ∨ ((s ||| 2 ^ r) ^^^ 2 ^ i = s ∧ i < r)) then kF N c ((s ||| 2 ^ r) ^^^ 2 ^ i) else 0) (kF N c s) hr
  have h2 : (fun i => if (s ||| 2 ^ r).testBit i = true ∧ c (n_pop s) i = true ∧ ((s ||| 2 ^ r) ^^^ 2 ^ i < s ∨ ((s ||| 2 ^ r) ^^^ 2 ^ i = s ∧ i < r + 1)) then kF N c ((s ||| 2 ^ r) ^^^ 2 ^ i) else 0) = (fun k => if k = r then kF N c s else (fun i => if (s ||| 2 ^ r).testBit i = true ∧ c (n_pop s) i = true ∧ ((s ||| 2 ^ r) ^^^ 2 ^ i < s ∨ ((s ||| 2 ^ r) ^^^ 2 ^ i = s ∧ i < r)) then kF N c ((s ||| 2 ^ r) ^^^ 2 ^ i) else 0) k) := by
    funext i
    by_cases e : i = r
    · subst e
      rw [if_pos rfl, if_pos ⟨e2, hc, Or.inr ⟨e1, by omega⟩⟩, e1]
    · rw [if_neg e]
      show (if _ then _ else _) = (if _ then _ else _)
      by_cases y : (s ||| 2 ^ r).testBit i = true ∧ c (n_pop s) i = true ∧ ((s ||| 2 ^ r) ^^^ 2 ^ i < s ∨ ((s ||| 2 ^ r) ^^^ 2 ^ i = s ∧ i < r))
      · rw [if_pos y, if_pos ⟨y.1, y.2.1, by omega⟩]
      · rw [if_neg y, if_neg (fun z => y ⟨z.1, z.2.1, by omega⟩)]
  rw [h2]
  rw [if_neg (show ¬ ((s ||| 2 ^ r).testBit r = true ∧ c (n_pop s) r = true ∧ ((s ||| 2 ^ r) ^^^ 2 ^ r < s ∨ ((s ||| 2 ^ r) ^^^ 2 ^ r = s ∧ r < r))) by rw [e1]; omega)] at h1
  omega
theorem kq_next {N : Nat} {c : Nat → Nat → Bool} {s t : Nat} : kq N c s N t = kq N c (s + 1) 0 t := by
  unfold kq
  split
  · rfl
  · refine fb_sm_cong (fun i hi => ?_)
    show (if _ then _ else _) = (if _ then _ else _)
    by_cases y : t.testBit i = true ∧ c (n_pop t - 1) i = true ∧ (t ^^^ 2 ^ i < s ∨ (t ^^^ 2 ^ i = s ∧ i < N))
    · rw [if_pos y, if_pos ⟨y.1, y.2.1, by omega⟩]
    · rw [if_neg y, if_neg (fun z => y ⟨z.1, z.2.1, by omega⟩)]
/-- may a house own a roof, when a house (or none) is to own one -/
def kc (a : Ab) (x y : Int32) (h r : Nat) : Bool := (ab_may a (a 7 0) h).testBit r && (!decide (nI h = x) || decide (nI r = y))
def kW (a : Ab) (x y : Int32) : Nat := kF (ab_hc a) (kc a x y) (2 ^ ab_hc a - 1)
theorem kF_lt {N : Nat} {c : Nat → Nat → Bool} (hN : N ≤ 8) (t : Nat) : kF N c t ≤ 16777216 := by
  have h1 := fw_le (c := c) hN (n_pop t) t
  have h2 : 8 ^ n_pop t ≤ 8 ^ 8 := Nat.pow_le_pow_right (by decide) (n_pop_le t)
  unfold kF
  omega
def sp_N_waysBy (a : Ab) : ra_Sp := ra_f2 82 (fun x y σ Z => rn_R a σ ∧ rn_P a σ ∧ rn_may a σ ∧ ∀ σ', ra_fr [107] σ σ' → σ' 82 2 = σ 82 2 → Z (some (.int (nI (kW a x y)))) σ')
theorem q_N_waysBy {a : Ab} {oo : Nat} {x y : Int32} {σ : ra_St} {Z : ra_R} : sp_N_waysBy a [.ref oo, .int x, .int y] σ Z = (oo = 82 ∧ (rn_R a σ ∧ rn_P a σ ∧ rn_may a σ ∧ ∀ σ', ra_fr [107] σ σ' → σ' 82 2 = σ 82 2 → Z (some (.int (nI (kW a x y)))) σ')) := rfl
def I_N_waysBy (a : Ab) (Z : ra_R) (as : List Value) (σ0 : ra_St) (t : Nat) (μ : ra_M) : ra_K := fun L S σ => S = [] ∧ ∃ (x y : Int32) (s r : Nat) (u v w b : Value), as = [.ref 82, .int x, .int y] ∧ ra_fr [107] σ0 σ ∧ σ 82 2 = nI (ab_hc a) ∧ s ≤ 2 ^ ab_hc a ∧ r ≤ ab_hc a ∧
  match t with
  | 12 => μ = (2, 0, 2 ^ ab_hc a - s) ∧ (∀ j, j < s → σ 107 j = nI (if j = 0 then 1 else 0)) ∧ L = [.ref 82, .int x, .int y, .int (nI (2 ^ ab_hc a - 1)), .int (nI s), u, v, w]
  | 44 => μ = (1, 2 ^ ab_hc a - s, 100) ∧ (∀ j, j < 2 ^ ab_hc a → σ 107 j = nI (kq (ab_hc a) (kc a x y) s 0 j)) ∧ L = [.ref 82, .int x, .int y, .int (nI (2 ^ ab_hc a - 1)), .int (nI s), u, v, w]
  | _ => μ = (1, 2 ^ ab_hc a - s, ab_hc a - r) ∧ s < 2 ^ ab_hc a ∧ (∀ j, j < 2 ^ ab_hc a → σ 107 j = nI (kq (ab_hc a) (kc a x y) s r j)) ∧ L = [.ref 82, .int x, .int y, .int (nI (2 ^ ab_hc a - 1)), .int (nI s), .int (nI (n_pop s)), .int (nI r), w]
theorem n_pop_lt {N s : Nat} (hN : N ≤ 8) (hs : s < 2 ^ N) : n_pop s ≤ N := by
  obtain ⟨m, hm⟩ : ∃ m, N + m = 8 := ⟨8 - N, by omega⟩
  unfold n_pop
  rw [← hm, fb_ct_split]
  have h1 := fb_ct_le (fun i => s.testBit i) N
  have h2 : fb_ct (fun k => s.testBit (N + k)) m = 0 := fb_ct_zero.mpr (fun k _ => Nat.testBit_lt_two_pow (Nat.lt_of_lt_of_le hs (Nat.pow_le_pow_right (by decide) (by omega))))
  omega
theorem k_N_waysBy {l : Launch} {X : ra_X} {a : Ab} (hW : ab_W a) : ra_MOK l X mi_N_waysBy (sp_N_waysBy a) := by
  have h8 := ab_hc_8 a
  obtain ⟨p1, p2⟩ := pow_256 a
  refine g_N_waysBy k_N_ones k_N_isIn (sp_N_waysBy a) (I_N_waysBy a) ?_ ?_ ?_ ?_
  · intro as σ Z _ _ h
    obtain ⟨x, y, rfl, hR, hP, hm, hZ⟩ := x_f2 h
    simp (disch := omega) only [b_N_waysBy_165, b_N_waysBy_159, b_N_waysBy_151, b_N_waysBy_150, b_N_waysBy_140, b_N_waysBy_120, b_N_waysBy_119, b_N_waysBy_115, b_N_waysBy_109, b_N_waysBy_103, b_N_waysBy_93, b_N_waysBy_78, b_N_waysBy_69, b_N_waysBy_60, b_N_waysBy_50, b_N_waysBy_44, b_N_waysBy_41, b_N_waysBy_34, b_N_waysBy_33, b_N_waysBy_29, b_N_waysBy_18, b_N_waysBy_12, b_N_waysBy_0, e_al0, e_il3, e_il4, e_il6, e_il7, e_il2, e_il5, e_il1, e_is7i, e_is7r, e_is7n, e_is5i, e_is5r, e_is5n, e_is6i, e_is6r, e_is6n, e_is4i, e_is4r, e_is4n, e_is3i, e_is3r, e_is3n, e_inc4i, e_inc4r, e_inc4n, e_inc6i, e_inc6r, e_inc6n, e_c, e_i2, e_dup2, e_b1, e_b2, e_gi, e_gr, e_ald, e_ast, e_ir, e_cs2, e_cs1, e_c10, e_c1i, e_c1r, e_sh0, e_sh1, e_sh2, e_sh3, e_sh4, e_tls, e_tln, e_tl0, e_tl1, cl_82, cl_106, ln_106, cl_107, ln_107, tg_82_26, tg_82_27, q_N_ones, q_N_isIn, Nat.reduceAdd, true_and, and_true, true_implies, not_true_eq_false, false_implies, not_false_eq_true, imp_self, forall_const, List.append_nil, ra_I, ra_J, ra_pad, true_or, or_true, Nat.reduceEqDiff, ra_bz, eq_self, if_true, if_false, false_and, and_false, Nat.zero_le, List.cons_append, List.nil_append, Nat.reduceLT, Nat.reduceLeDiff, Nat.reduceMul, Nat.reduceSub, n_0, n_1, n_2, n_3, n_4, n_5, n_6, n_7, n_8, n_9, n_10, n_12, n_40, n_48, n_57, n_59, n_72, n_99, n_102, n_103, n_107, n_108, n_192, n_255, n_256, n_999, n_1000, n_104, nI_add, pk_mul, n_cl, n_inT, n_le, n_lt, n_eq, n_m1, n_m1', n_lem1, n_m1le, n_ltm1, n_m1lt, n_lepred, n_shl, fa_or, hP.1.1, n_sub]
    exact ⟨_, rfl, x, y, 0, 0, _, _, _, .null, rfl, ra_fr.rf, hP.1.1, by omega, by omega, rfl, fun j hj => by omega, rfl⟩
  · -- 12
    intro as σ0 Z h0 μ L S σ hI
    obtain ⟨rfl, x, y, s, r, u, v, w, b, rfl, hf, hH, hs, hr, rfl, hq, rfl⟩ := hI
    have fin : s < 2 ^ ab_hc a → ∀ z : Nat, z = (if s = 0 then 1 else 0) → ∃ μ', ra_lx μ' (2, 0, 2 ^ ab_hc a - s) ∧ I_N_waysBy a Z [.ref 82, .int x, .int y] σ0 12 μ' [.ref 82, .int x, .int y, .int (nI (2 ^ ab_hc a - 1)), .int (nI (s + 1)), u, v, w] [] (ra_sw σ 107 s (nI z)) := by
      intro h1 z hz
      refine ⟨(2, 0, 2 ^ ab_hc a - (s + 1)), lx3 (by omega), rfl, x, y, s + 1, r, u, v, w, b, rfl, hf.sw (by decide) (by decide), by simpa [sw_at] using hH, by omega, hr, rfl, fun j hj => ?_, rfl⟩
      rw [sw_at, if_pos rfl]
      split
      · next e => rw [e, hz]
      · exact hq j (by omega)
    simp (disch := omega) only [b_N_waysBy_165, b_N_waysBy_159, b_N_waysBy_151, b_N_waysBy_150, b_N_waysBy_140, b_N_waysBy_120, b_N_waysBy_119, b_N_waysBy_115, b_N_waysBy_109, b_N_waysBy_103, b_N_waysBy_93, b_N_waysBy_78, b_N_waysBy_69, b_N_waysBy_60, b_N_waysBy_50, b_N_waysBy_44, b_N_waysBy_41, b_N_waysBy_34, b_N_waysBy_33, b_N_waysBy_29, b_N_waysBy_18, b_N_waysBy_12, b_N_waysBy_0, e_al0, e_il3, e_il4, e_il6, e_il7, e_il2, e_il5, e_il1, e_is7i, e_is7r, e_is7n, e_is5i, e_is5r, e_is5n, e_is6i, e_is6r, e_is6n, e_is4i, e_is4r, e_is4n, e_is3i, e_is3r, e_is3n, e_inc4i, e_inc4r, e_inc4n, e_inc6i, e_inc6r, e_inc6n, e_c, e_i2, e_dup2, e_b1, e_b2, e_gi, e_gr, e_ald, e_ast, e_ir, e_cs2, e_cs1, e_c10, e_c1i, e_c1r, e_sh0, e_sh1, e_sh2, e_sh3, e_sh4, e_tls, e_tln, e_tl0, e_tl1, cl_82, cl_106, ln_106, cl_107, ln_107, tg_82_26, tg_82_27, q_N_ones, q_N_isIn, Nat.reduceAdd, true_and, and_true, true_implies, not_true_eq_false, false_implies, not_false_eq_true, imp_self, forall_const, List.append_nil, ra_I, ra_J, ra_pad, true_or, or_true, Nat.reduceEqDiff, ra_bz, eq_self, if_true, if_false, false_and, and_false, Nat.zero_le, List.cons_append, List.nil_append, Nat.reduceLT, Nat.reduceLeDiff, Nat.reduceMul, Nat.reduceSub, n_0, n_1, n_2, n_3, n_4, n_5, n_6, n_7, n_8, n_9, n_10, n_12, n_40, n_48, n_57, n_59, n_72, n_99, n_102, n_103, n_107, n_108, n_192, n_255, n_256, n_999, n_1000, n_104, nI_add, pk_mul, n_cl, n_inT, n_le, n_lt, n_eq, n_m1, n_m1', n_lem1, n_m1le, n_ltm1, n_m1lt, n_lepred, n_shl, fa_or, hH]
    refine ⟨fun z => ⟨(1, 2 ^ ab_hc a - 0, 100), lx1 (by decide), rfl, x, y, 0, r, u, v, w, b, rfl, hf, hH, by omega, hr, rfl, fun j hj => by rw [hq j (by omega), kq_0], rfl⟩, fun z => ⟨fun z2 => ⟨vi (by omega) (by decide), fin (by omega) 1 ?_⟩, fun z2 => ⟨vi (by omega) (by decide), fin (by omega) 0 ?_⟩⟩⟩
    · rw [if_pos z2]
    · rw [if_neg z2]
  · -- 44
    intro as σ0 Z h0 μ L S σ hI
    obtain ⟨rfl, x, y, s, r, u, v, w, b, rfl, hf, hH, hs, hr, rfl, hq, rfl⟩ := hI
    obtain ⟨_, _, e, hR, hP, hm, hZ⟩ := x_f2 h0
    cases e
    simp (disch := omega) only [b_N_waysBy_165, b_N_waysBy_159, b_N_waysBy_151, b_N_waysBy_150, b_N_waysBy_140, b_N_waysBy_120, b_N_waysBy_119, b_N_waysBy_115, b_N_waysBy_109, b_N_waysBy_103, b_N_waysBy_93, b_N_waysBy_78, b_N_waysBy_69, b_N_waysBy_60, b_N_waysBy_50, b_N_waysBy_44, b_N_waysBy_41, b_N_waysBy_34, b_N_waysBy_33, b_N_waysBy_29, b_N_waysBy_18, b_N_waysBy_12, b_N_waysBy_0, e_al0, e_il3, e_il4, e_il6, e_il7, e_il2, e_il5, e_il1, e_is7i, e_is7r, e_is7n, e_is5i, e_is5r, e_is5n, e_is6i, e_is6r, e_is6n, e_is4i, e_is4r, e_is4n, e_is3i, e_is3r, e_is3n, e_inc4i, e_inc4r, e_inc4n, e_inc6i, e_inc6r, e_inc6n, e_c, e_i2, e_dup2, e_b1, e_b2, e_gi, e_gr, e_ald, e_ast, e_ir, e_cs2, e_cs1, e_c10, e_c1i, e_c1r, e_sh0, e_sh1, e_sh2, e_sh3, e_sh4, e_tls, e_tln, e_tl0, e_tl1, cl_82, cl_106, ln_106, cl_107, ln_107, tg_82_26, tg_82_27, q_N_ones, q_N_isIn, Nat.reduceAdd, true_and, and_true, true_implies, not_true_eq_false, false_implies, not_false_eq_true, imp_self, forall_const, List.append_nil, ra_I, ra_J, ra_pad, true_or, or_true, Nat.reduceEqDiff, ra_bz, eq_self, if_true, if_false, false_and, and_false, Nat.zero_le, List.cons_append, List.nil_append, Nat.reduceLT, Nat.reduceLeDiff, Nat.reduceMul, Nat.reduceSub, n_0, n_1, n_2, n_3, n_4, n_5, n_6, n_7, n_8, n_9, n_10, n_12, n_40, n_48, n_57, n_59, n_72, n_99, n_102, n_103, n_107, n_108, n_192, n_255, n_256, n_999, n_1000, n_104, nI_add, pk_mul, n_cl, n_inT, n_le, n_lt, n_eq, n_m1, n_m1', n_lem1, n_m1le, n_ltm1, n_m1lt, n_lepred, n_shl, fa_or, hH]
    refine ⟨fun z => ?_, fun z => ⟨vi (by omega) (by decide), ?_⟩⟩
    · have h9 := hZ σ hf (by rw [hH, hP.1.1])
      rw [hq _ (by omega), kq_full h8 (by omega) (by omega)]
      exact h9
    · exact ⟨(1, 2 ^ ab_hc a - s, ab_hc a - 0), lx3 (by omega), rfl, x, y, s, 0, u, v, w, b, rfl, hf, hH, by omega, by omega, rfl, by omega, hq, rfl⟩
  · -- 60
    intro as σ0 Z h0 μ L S σ hI
    obtain ⟨rfl, x, y, s, r, u, v, w, b, rfl, hf, hH, hs, hr, rfl, hs2, hq, rfl⟩ := hI
    obtain ⟨_, _, e, hR, hP, hm, hZ⟩ := x_f2 h0
    cases e
    have hpop := n_pop_lt h8 hs2
    have hp8 := n_pop_le s
    have next : (r = ab_hc a ∨ n_pop s = ab_hc a) → ∃ μ', ra_lx μ' (1, 2 ^ ab_hc a - s, ab_hc a - r) ∧ I_N_waysBy a Z [.ref 82, .int x, .int y] σ0 44 μ' [.ref 82, .int x, .int y, .int (nI (2 ^ ab_hc a - 1)), .int (nI (s + 1)), .int (nI (n_pop s)), .int (nI r), w] [] σ := by
      intro h1
      refine ⟨(1, 2 ^ ab_hc a - (s + 1), 100), lx2 (by omega), rfl, x, y, s + 1, r, _, _, w, b, rfl, hf, hH, by omega, hr, rfl, fun j hj => ?_, rfl⟩
      rw [hq j hj]
      congr 1
      rcases h1 with h1 | h1
      · rw [h1]
        exact kq_next
      · -- all are taken
        rw [← kq_next]
        have hno : ∀ i, i < ab_hc a → ¬ (j.testBit i = true ∧ kc a x y (n_pop j - 1) i = true ∧ j ^^^ 2 ^ i = s) := by
          intro i hi z
          have h2 := n_pop_lt h8 hj
          have h3 := xb_pop (by omega) z.1
          rw [z.2.2] at h3
          omega
        have : ∀ m, r + m ≤ ab_hc a → kq (ab_hc a) (kc a x y) s (r + m) j = kq (ab_hc a) (kc a x y) s r j := by
          intro m
          induction m with
          | zero => intro _; rfl
          | succ m ih =>
            intro hm2
            rw [← Nat.add_assoc, kq_same (hno _ (by omega)), ih (by omega)]
        have := this (ab_hc a - r) (by omega)
        rw [show r + (ab_hc a - r) = ab_hc a by omega] at this
        exact this.symm
    by_cases hgo : r < ab_hc a ∧ n_pop s < ab_hc a
    · obtain ⟨hlt, hplt⟩ := hgo
      have hmm := hm (n_pop s) hplt
      have hm256 := ab_may_lt (a := a) (a 7 0) (n_pop s)
      have hmm2 : σ 106 (n_pop s) = nI (ab_may a (a 7 0) (n_pop s)) := by rw [hf.1 106 (by decide) (by decide)]; exact hmm
      have hlt2 : s ||| 2 ^ r < 2 ^ ab_hc a := Nat.or_lt_two_pow hs2 (Nat.pow_lt_pow_right (by decide) hlt)
      have h120 : ∀ z : Nat, z ≤ 1 → (z = 1 ↔ s.testBit r = false ∧ kc a x y (n_pop s) r = true) → b_N_waysBy_120 sp_N_ones sp_N_isIn (ra_J (I_N_waysBy a Z [.ref 82, .int x, .int y] σ0) (1, 2 ^ ab_hc a - s, ab_hc a - r)) Z [.ref 82, .int x, .int y, .int (nI (2 ^ ab_hc a - 1)), .int (nI s), .int (nI (n_pop s)), .int (nI r), w] [.int (nI z)] σ := by
        intro z hz1 hz
        have fin : ∀ e : Nat, e = kq (ab_hc a) (kc a x y) s (r + 1) (s ||| 2 ^ r) → ∃ μ', ra_lx μ' (1, 2 ^ ab_hc a - s, ab_hc a - r) ∧ I_N_waysBy a Z [.ref 82, .int x, .int y] σ0 60 μ' [.ref 82, .int x, .int y, .int (nI (2 ^ ab_hc a - 1)), .int (nI s), .int (nI (n_pop s)), .int (nI (r + 1)), .int (nI z)] [] (ra_sw σ 107 (s ||| 2 ^ r) (nI e)) := by
          intro e he
          refine ⟨(1, 2 ^ ab_hc a - s, ab_hc a - (r + 1)), lx3 (by omega), rfl, x, y, s, r + 1, u, v, _, b, rfl, hf.sw (by decide) (by decide), by simpa [sw_at] using hH, hs, by omega, rfl, hs2, fun j hj => ?_, rfl⟩
          rw [sw_at, if_pos rfl]
          by_cases e2 : j = s ||| 2 ^ r
          · rw [if_pos e2, he, e2]
          · rw [if_neg e2, hq j hj, kq_same (fun y2 => e2 (by rw [← y2.2.2, xb_or y2.1]))]
        have hss := hq s hs2
        have hst := hq (s ||| 2 ^ r) hlt2
        have hsF : kq (ab_hc a) (kc a x y) s r s = kF (ab_hc a) (kc a x y) s := by
          rw [← kq_full (c := kc a x y) h8 hs2 (Nat.le_refl s)]
          have : ∀ m, m ≤ r → kq (ab_hc a) (kc a x y) s m s = kq (ab_hc a) (kc a x y) s 0 s := by
            intro m
            induction m with
            | zero => intro _; rfl
            | succ m ih =>
              intro hm2
              rw [kq_same (fun y2 => by have := xb_lt y2.1; omega), ih (by omega)]
          exact this r (Nat.le_refl _)
        simp (disch := omega) only [b_N_waysBy_165, b_N_waysBy_159, b_N_waysBy_151, b_N_waysBy_150, b_N_waysBy_140, b_N_waysBy_120, b_N_waysBy_119, b_N_waysBy_115, b_N_waysBy_109, b_N_waysBy_103, b_N_waysBy_93, b_N_waysBy_78, b_N_waysBy_69, b_N_waysBy_60, b_N_waysBy_50, b_N_waysBy_44, b_N_waysBy_41, b_N_waysBy_34, b_N_waysBy_33, b_N_waysBy_29, b_N_waysBy_18, b_N_waysBy_12, b_N_waysBy_0, e_al0, e_il3, e_il4, e_il6, e_il7, e_il2, e_il5, e_il1, e_is7i, e_is7r, e_is7n, e_is5i, e_is5r, e_is5n, e_is6i, e_is6r, e_is6n, e_is4i, e_is4r, e_is4n, e_is3i, e_is3r, e_is3n, e_inc4i, e_inc4r, e_inc4n, e_inc6i, e_inc6r, e_inc6n, e_c, e_i2, e_dup2, e_b1, e_b2, e_gi, e_gr, e_ald, e_ast, e_ir, e_cs2, e_cs1, e_c10, e_c1i, e_c1r, e_sh0, e_sh1, e_sh2, e_sh3, e_sh4, e_tls, e_tln, e_tl0, e_tl1, cl_82, cl_106, ln_106, cl_107, ln_107, tg_82_26, tg_82_27, q_N_ones, q_N_isIn, Nat.reduceAdd, true_and, and_true, true_implies, not_true_eq_false, false_implies, not_false_eq_true, imp_self, forall_const, List.append_nil, ra_I, ra_J, ra_pad, true_or, or_true, Nat.reduceEqDiff, ra_bz, eq_self, if_true, if_false, false_and, and_false, Nat.zero_le, List.cons_append, List.nil_append, Nat.reduceLT, Nat.reduceLeDiff, Nat.reduceMul, Nat.reduceSub, n_0, n_1, n_2, n_3, n_4, n_5, n_6, n_7, n_8, n_9, n_10, n_12, n_40, n_48, n_57, n_59, n_72, n_99, n_102, n_103, n_107, n_108, n_192, n_255, n_256, n_999, n_1000, n_104, nI_add, pk_mul, n_cl, n_inT, n_le, n_lt, n_eq, n_m1, n_m1', n_lem1, n_m1le, n_ltm1, n_m1lt, n_lepred, n_shl, fa_or, hss, hst, hsF]
        refine ⟨fun q => ?_, fun q => ?_⟩
        · refine fin _ ?_
          rw [kq_same (fun y2 => ?_)]
          · rfl
          · have h1 := xb_self y2.1
            rw [y2.2.2] at h1
            have h2 := n_pop_set (s := s) (r := r) (by omega) h1
            have h3 := y2.2.1
            rw [h2, show n_pop s + 1 - 1 = n_pop s by omega] at h3
            have := hz.mpr ⟨h1, h3⟩
            omega
        · obtain ⟨g1, g2⟩ := hz.mp (by omega)
          exact fin _ (kq_push h8 hlt g1 g2).symm
      simp (disch := omega) only [b_N_waysBy_165, b_N_waysBy_159, b_N_waysBy_151, b_N_waysBy_150, b_N_waysBy_140, b_N_waysBy_119, b_N_waysBy_115, b_N_waysBy_109, b_N_waysBy_103, b_N_waysBy_93, b_N_waysBy_78, b_N_waysBy_69, b_N_waysBy_60, b_N_waysBy_50, b_N_waysBy_44, b_N_waysBy_41, b_N_waysBy_34, b_N_waysBy_33, b_N_waysBy_29, b_N_waysBy_18, b_N_waysBy_12, b_N_waysBy_0, e_al0, e_il3, e_il4, e_il6, e_il7, e_il2, e_il5, e_il1, e_is7i, e_is7r, e_is7n, e_is5i, e_is5r, e_is5n, e_is6i, e_is6r, e_is6n, e_is4i, e_is4r, e_is4n, e_is3i, e_is3r, e_is3n, e_inc4i, e_inc4r, e_inc4n, e_inc6i, e_inc6r, e_inc6n, e_c, e_i2, e_dup2, e_b1, e_b2, e_gi, e_gr, e_ald, e_ast, e_ir, e_cs2, e_cs1, e_c10, e_c1i, e_c1r, e_sh0, e_sh1, e_sh2, e_sh3, e_sh4, e_tls, e_tln, e_tl0, e_tl1, cl_82, cl_106, ln_106, cl_107, ln_107, tg_82_26, tg_82_27, q_N_ones, q_N_isIn, Nat.reduceAdd, true_and, and_true, true_implies, not_true_eq_false, false_implies, not_false_eq_true, imp_self, forall_const, List.append_nil, ra_I, ra_J, ra_pad, true_or, or_true, Nat.reduceEqDiff, ra_bz, eq_self, if_true, if_false, false_and, and_false, Nat.zero_le, List.cons_append, List.nil_append, Nat.reduceLT, Nat.reduceLeDiff, Nat.reduceMul, Nat.reduceSub, n_0, n_1, n_2, n_3, n_4, n_5, n_6, n_7, n_8, n_9, n_10, n_12, n_40, n_48, n_57, n_59, n_72, n_99, n_102, n_103, n_107, n_108, n_192, n_255, n_256, n_999, n_1000, n_104, nI_add, pk_mul, n_cl, n_inT, n_le, n_lt, n_eq, n_m1, n_m1', n_lem1, n_m1le, n_ltm1, n_m1lt, n_lepred, n_shl, fa_or, hH, hmm2]
      refine ⟨fun z => by omega, fun _ => ⟨fun z => by omega, fun _ => ⟨fun z => ⟨fun z2 => h120 0 (by omega) ⟨fun q => by omega, fun q => by rw [z2] at q; exact absurd q.1 (by decide)⟩, fun z2 => ⟨fun z3 => ⟨fun z4 => h120 1 (by omega) ⟨fun _ => ⟨ts_nt' z2, ?_⟩, fun _ => rfl⟩, fun z4 => h120 0 (by omega) ⟨fun q => by omega, fun q => ?_⟩⟩, fun z3 => h120 1 (by omega) ⟨fun _ => ⟨ts_nt' z2, ?_⟩, fun _ => rfl⟩⟩⟩, fun z => h120 0 (by omega) ⟨fun q => by omega, fun q => ?_⟩⟩⟩⟩
      · unfold kc
        rw [z, decide_eq_true z4]
        simp
      · have := q.2
        unfold kc at this
        rw [z, decide_eq_true z3, decide_eq_false z4] at this
        exact absurd this (by decide)
      · unfold kc
        rw [z, decide_eq_false z3]
        rfl
      · have := q.2
        unfold kc at this
        rw [ts_nt' z, Bool.false_and] at this
        exact absurd this (by decide)
    · simp (disch := omega) only [b_N_waysBy_165, b_N_waysBy_159, b_N_waysBy_151, b_N_waysBy_150, b_N_waysBy_140, b_N_waysBy_120, b_N_waysBy_119, b_N_waysBy_115, b_N_waysBy_109, b_N_waysBy_103, b_N_waysBy_93, b_N_waysBy_69, b_N_waysBy_60, b_N_waysBy_50, b_N_waysBy_44, b_N_waysBy_41, b_N_waysBy_34, b_N_waysBy_33, b_N_waysBy_29, b_N_waysBy_18, b_N_waysBy_12, b_N_waysBy_0, e_al0, e_il3, e_il4, e_il6, e_il7, e_il2, e_il5, e_il1, e_is7i, e_is7r, e_is7n, e_is5i, e_is5r, e_is5n, e_is6i, e_is6r, e_is6n, e_is4i, e_is4r, e_is4n, e_is3i, e_is3r, e_is3n, e_inc4i, e_inc4r, e_inc4n, e_inc6i, e_inc6r, e_inc6n, e_c, e_i2, e_dup2, e_b1, e_b2, e_gi, e_gr, e_ald, e_ast, e_ir, e_cs2, e_cs1, e_c10, e_c1i, e_c1r, e_sh0, e_sh1, e_sh2, e_sh3, e_sh4, e_tls, e_tln, e_tl0, e_tl1, cl_82, cl_106, ln_106, cl_107, ln_107, tg_82_26, tg_82_27, q_N_ones, q_N_isIn, Nat.reduceAdd, true_and, and_true, true_implies, not_true_eq_false, false_implies, not_false_eq_true, imp_self, forall_const, List.append_nil, ra_I, ra_J, ra_pad, true_or, or_true, Nat.reduceEqDiff, ra_bz, eq_self, if_true, if_false, false_and, and_false, Nat.zero_le, List.cons_append, List.nil_append, Nat.reduceLT, Nat.reduceLeDiff, Nat.reduceMul, Nat.reduceSub, n_0, n_1, n_2, n_3, n_4, n_5, n_6, n_7, n_8, n_9, n_10, n_12, n_40, n_48, n_57, n_59, n_72, n_99, n_102, n_103, n_107, n_108, n_192, n_255, n_256, n_999, n_1000, n_104, nI_add, pk_mul, n_cl, n_inT, n_le, n_lt, n_eq, n_m1, n_m1', n_lem1, n_m1le, n_ltm1, n_m1lt, n_lepred, n_shl, fa_or, hH]
      exact ⟨fun z => next (by omega), fun z => ⟨fun z2 => next (by omega), fun z2 => by omega⟩⟩
