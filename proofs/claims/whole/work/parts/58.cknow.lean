/-! the class: facts, ways behind and ahead -/
def sp_Kn_readFacts (a : Ab) : ra_Sp := ra_f1 54 (fun x σ Z => rc_V a σ ∧ rc_K a σ ∧ x = nI (2 ^ ab_hc a - 1) ∧ ∀ σ', (∀ h, h < ab_hc a → σ' 58 h = nI (kO a h)) → ra_fs [58] [] σ σ' → Z (some (.int (nI (if kp a (a 7 0) = true then 1 else 0)))) σ')
theorem q_Kn_readFacts {a : Ab} {oo : Nat} {x : Int32} {σ : ra_St} {Z : ra_R} : sp_Kn_readFacts a [.ref oo, .int x] σ Z = (oo = 54 ∧ (rc_V a σ ∧ rc_K a σ ∧ x = nI (2 ^ ab_hc a - 1) ∧ ∀ σ', (∀ h, h < ab_hc a → σ' 58 h = nI (kO a h)) → ra_fs [58] [] σ σ' → Z (some (.int (nI (if kp a (a 7 0) = true then 1 else 0)))) σ')) := rfl
def I_Kn_readFacts (a : Ab) (Z : ra_R) (as : List Value) (σ0 : ra_St) (t : Nat) (μ : ra_M) : ra_K := fun L S σ => S = [] ∧ as = [.ref 54, .int (nI (2 ^ ab_hc a - 1))] ∧ ∃ (h k s : Nat) (u v : Value), rc_V a σ ∧ rc_K a σ ∧ ra_fs [58] [] σ0 σ ∧ h ≤ ab_hc a ∧ k ≤ a 7 0 ∧ s ≤ 1 ∧
  match t with
  | 4 => μ = (40, 0, ab_hc a - h) ∧ (∀ j, j < h → σ 58 j = nI (ko a 0 j)) ∧ L = [.ref 54, .int (nI (2 ^ ab_hc a - 1)), .int (nI 1), .int (nI h), u, v]
  | 30 => μ = (20 - k, 0, 0) ∧ (s = 1 ↔ kp a k = true) ∧ (∀ j, j < ab_hc a → σ 58 j = nI (ko a k j)) ∧ L = [.ref 54, .int (nI (2 ^ ab_hc a - 1)), .int (nI s), .int (nI k), u, v]
  | _ => μ = (0, 0, ab_hc a - h) ∧ (s = 1 ↔ kp a (a 7 0) = true) ∧ (∀ j, j < ab_hc a → σ 58 j = nI (if j < h then kO a j else ko a (a 7 0) j)) ∧ L = [.ref 54, .int (nI (2 ^ ab_hc a - 1)), .int (nI s), .int (nI h), u, v]
theorem k_Kn_readFacts {l : Launch} {X : ra_X} {a : Ab} (hW : ab_W a) : ra_MOK l X mi_Kn_readFacts (sp_Kn_readFacts a) := by
  have h8 := ab_hc_8 a
  obtain ⟨p1, p2⟩ := pow_256 a
  have hf12 := hW.2.2.2.2.2.2.2.2.2.2.1
  refine g_Kn_readFacts (sp_Kn_readFacts a) (I_Kn_readFacts a) ?_ ?_ ?_ ?_
  · intro as σ Z _ _ h
    obtain ⟨_, rfl, hV, hK, rfl, hZ⟩ := x_f1 h
    simp (disch := omega) only [b_Kn_readFacts_185, b_Kn_readFacts_178, b_Kn_readFacts_177, b_Kn_readFacts_168, b_Kn_readFacts_159, b_Kn_readFacts_148, b_Kn_readFacts_146, b_Kn_readFacts_140, b_Kn_readFacts_138, b_Kn_readFacts_128, b_Kn_readFacts_123, b_Kn_readFacts_119, b_Kn_readFacts_114, b_Kn_readFacts_92, b_Kn_readFacts_75, b_Kn_readFacts_74, b_Kn_readFacts_70, b_Kn_readFacts_54, b_Kn_readFacts_38, b_Kn_readFacts_30, b_Kn_readFacts_28, b_Kn_readFacts_15, b_Kn_readFacts_4, b_Kn_readFacts_0, e_il2, e_al0, e_il3, e_il5, e_il4, e_il1, e_is3i, e_is3r, e_is3n, e_is2i, e_is2r, e_is2n, e_is4i, e_is4r, e_is4n, e_is5i, e_is5r, e_is5n, e_inc3i, e_inc3r, e_inc3n, e_c, e_i2, e_dup2, e_b1, e_b2, e_gi, e_gr, e_ald, e_ast, e_zr, cl_1, cl_54, cl_55, ln_55, cl_56, ln_56, cl_57, ln_57, cl_58, ln_58, tg_54_0, tg_54_1, tg_54_2, tg_54_3, tg_54_4, Nat.reduceAdd, true_and, and_true, true_implies, not_true_eq_false, false_implies, not_false_eq_true, imp_self, forall_const, List.append_nil, ra_I, ra_J, ra_pad, true_or, or_true, Nat.reduceEqDiff, ra_bz, eq_self, if_true, if_false, false_and, and_false, Nat.zero_le, List.cons_append, List.nil_append, Nat.reduceLT, Nat.reduceLeDiff, Nat.reduceMul, Nat.reduceSub, n_0, n_1, n_2, n_3, n_4, n_5, n_6, n_7, n_8, n_9, n_10, n_12, n_40, n_48, n_57, n_59, n_72, n_99, n_102, n_103, n_107, n_108, n_192, n_255, n_256, n_999, n_1000, n_104, nI_add, pk_mul, n_cl, n_inT, n_le, n_lt, n_eq, n_m1, n_m1', n_lem1, n_m1le, n_ltm1, n_m1lt, n_lepred, n_shl, fa_or]
    exact ⟨_, rfl, rfl, 0, 0, 0, _, _, hV, hK, ra_fs.rf, by omega, by omega, by omega, rfl, fun j hj => by omega, rfl⟩
  · -- 4
    intro as σ0 Z h0 μ L S σ hI
    obtain ⟨rfl, rfl, h, k, s, u, v, hV, hK, hf, hh, hk, hs, rfl, hq, rfl⟩ := hI
    simp (disch := omega) only [b_Kn_readFacts_185, b_Kn_readFacts_178, b_Kn_readFacts_177, b_Kn_readFacts_168, b_Kn_readFacts_159, b_Kn_readFacts_148, b_Kn_readFacts_146, b_Kn_readFacts_140, b_Kn_readFacts_138, b_Kn_readFacts_128, b_Kn_readFacts_123, b_Kn_readFacts_119, b_Kn_readFacts_114, b_Kn_readFacts_92, b_Kn_readFacts_75, b_Kn_readFacts_74, b_Kn_readFacts_70, b_Kn_readFacts_54, b_Kn_readFacts_38, b_Kn_readFacts_30, b_Kn_readFacts_28, b_Kn_readFacts_15, b_Kn_readFacts_4, b_Kn_readFacts_0, e_il2, e_al0, e_il3, e_il5, e_il4, e_il1, e_is3i, e_is3r, e_is3n, e_is2i, e_is2r, e_is2n, e_is4i, e_is4r, e_is4n, e_is5i, e_is5r, e_is5n, e_inc3i, e_inc3r, e_inc3n, e_c, e_i2, e_dup2, e_b1, e_b2, e_gi, e_gr, e_ald, e_ast, e_zr, cl_1, cl_54, cl_55, ln_55, cl_56, ln_56, cl_57, ln_57, cl_58, ln_58, tg_54_0, tg_54_1, tg_54_2, tg_54_3, tg_54_4, Nat.reduceAdd, true_and, and_true, true_implies, not_true_eq_false, false_implies, not_false_eq_true, imp_self, forall_const, List.append_nil, ra_I, ra_J, ra_pad, true_or, or_true, Nat.reduceEqDiff, ra_bz, eq_self, if_true, if_false, false_and, and_false, Nat.zero_le, List.cons_append, List.nil_append, Nat.reduceLT, Nat.reduceLeDiff, Nat.reduceMul, Nat.reduceSub, n_0, n_1, n_2, n_3, n_4, n_5, n_6, n_7, n_8, n_9, n_10, n_12, n_40, n_48, n_57, n_59, n_72, n_99, n_102, n_103, n_107, n_108, n_192, n_255, n_256, n_999, n_1000, n_104, nI_add, pk_mul, n_cl, n_inT, n_le, n_lt, n_eq, n_m1, n_m1', n_lem1, n_m1le, n_ltm1, n_m1lt, n_lepred, n_shl, fa_or, hV.2.1.1]
    refine ⟨fun z => ⟨(20 - 0, 0, 0), lx1 (by omega), rfl, rfl, h, 0, 1, u, v, hV, hK, hf, hh, by omega, by omega, rfl, ⟨fun _ => rfl, fun _ => rfl⟩, fun j hj => hq j (by omega), rfl⟩, fun z => ?_⟩
    have hf1 : ra_fs [58] [] σ (ra_sw σ 58 h (nI (2 ^ ab_hc a - 1))) := ra_fs.rf.sw (Or.inl (by decide))
    refine ⟨vi (by omega) (by decide), (40, 0, ab_hc a - (h + 1)), lx3 (by omega), rfl, rfl, h + 1, k, s, u, v, hV.fs hf1 (by decide), hK.fs hf1 (by decide), hf.tr hf1 (by decide) (by decide), by omega, hk, hs, rfl, fun j hj => ?_, rfl⟩
    rw [sw_at, if_pos rfl]
    split
    · rfl
    · exact hq j (by omega)
  · -- 30
    intro as σ0 Z h0 μ L S σ hI
    obtain ⟨rfl, rfl, h, k, s, u, v, hV, hK, hf, hh, hk, hs1, rfl, hs, hq, rfl⟩ := hI
    by_cases hlt : k < a 7 0
    · obtain ⟨f1, f2, f3⟩ := hK.2 k hlt
      have b1 := hW.2.2.2.2.2.2.2.2.2.2.2.1 k
      have b2 := hW.2.2.2.2.2.2.2.2.2.2.2.2.1 k
      have b3 := hW.2.2.2.2.2.2.2.2.2.2.2.2.2 k
      have hm := ko_lt (a := a) k (a 8 k)
      have to : ∀ (s' : Nat) (σ' : ra_St) (u' v' : Value), s' ≤ 1 → (s' = 1 ↔ kp a (k + 1) = true) → (∀ j, j < ab_hc a → σ' 58 j = nI (ko a (k + 1) j)) → ra_fs [58] [] σ σ' → ∃ μ', ra_lx μ' (20 - k, 0, 0) ∧ I_Kn_readFacts a Z [.ref 54, .int (nI (2 ^ ab_hc a - 1))] σ0 30 μ' [.ref 54, .int (nI (2 ^ ab_hc a - 1)), .int (nI s'), .int (nI (k + 1)), u', v'] [] σ' := by
        intro s' σ' u' v' h1 h2 h3 h4
        exact ⟨(20 - (k + 1), 0, 0), lx1 (by omega), rfl, rfl, 0, k + 1, s', u', v', hV.fs h4 (by decide), hK.fs h4 (by decide), hf.tr h4 (by decide) (by decide), by omega, by omega, h1, rfl, h2, h3, rfl⟩
      have same : ¬ (a 8 k < ab_hc a ∧ a 9 k < ab_hc a) → ∀ j, j < ab_hc a → σ 58 j = nI (ko a (k + 1) j) := by
        intro h1 j hj
        rw [ko, if_neg (fun z => h1 z.1)]
        exact hq j hj
      have kpy : a 10 k ≠ 1 ∨ (a 8 k < ab_hc a ∧ a 9 k < ab_hc a) → kp a (k + 1) = kp a k := by
        intro h1
        rw [kp]
        rcases h1 with h1 | h1
        · rw [decide_eq_false h1]; simp
        · rw [decide_eq_true h1]; simp
      have kpn : a 10 k = 1 → ¬ (a 8 k < ab_hc a ∧ a 9 k < ab_hc a) → ¬ kp a (k + 1) = true := by
        intro h1 h2 z
        rw [kp, decide_eq_true h1, decide_eq_false h2] at z
        simp at z
      have put : ∀ (y : Nat), (a 8 k < ab_hc a ∧ a 9 k < ab_hc a) → y = ko a (k + 1) (a 8 k) → ∀ j, j < ab_hc a → ra_sw σ 58 (a 8 k) (nI y) 58 j = nI (ko a (k + 1) j) := by
        intro y h1 hy j hj
        rw [sw_at, if_pos rfl]
        by_cases e : j = a 8 k
        · rw [if_pos e, hy, e]
        · rw [if_neg e, ko, if_neg (fun z => e z.2)]
          exact hq j hj
      by_cases ht : a 8 k < ab_hc a ∧ a 9 k < ab_hc a
      · have hqk := hq (a 8 k) ht.1
        simp (disch := omega) only [b_Kn_readFacts_185, b_Kn_readFacts_178, b_Kn_readFacts_177, b_Kn_readFacts_168, b_Kn_readFacts_159, b_Kn_readFacts_148, b_Kn_readFacts_146, b_Kn_readFacts_140, b_Kn_readFacts_138, b_Kn_readFacts_123, b_Kn_readFacts_119, b_Kn_readFacts_114, b_Kn_readFacts_92, b_Kn_readFacts_75, b_Kn_readFacts_74, b_Kn_readFacts_70, b_Kn_readFacts_54, b_Kn_readFacts_38, b_Kn_readFacts_30, b_Kn_readFacts_28, b_Kn_readFacts_15, b_Kn_readFacts_4, b_Kn_readFacts_0, e_il2, e_al0, e_il3, e_il5, e_il4, e_il1, e_is3i, e_is3r, e_is3n, e_is2i, e_is2r, e_is2n, e_is4i, e_is4r, e_is4n, e_is5i, e_is5r, e_is5n, e_inc3i, e_inc3r, e_inc3n, e_c, e_i2, e_dup2, e_b1, e_b2, e_gi, e_gr, e_ald, e_ast, e_zr, cl_1, cl_54, cl_55, ln_55, cl_56, ln_56, cl_57, ln_57, cl_58, ln_58, tg_54_0, tg_54_1, tg_54_2, tg_54_3, tg_54_4, Nat.reduceAdd, true_and, and_true, true_implies, not_true_eq_false, false_implies, not_false_eq_true, imp_self, forall_const, List.append_nil, ra_I, ra_J, ra_pad, true_or, or_true, Nat.reduceEqDiff, ra_bz, eq_self, if_true, if_false, false_and, and_false, Nat.zero_le, List.cons_append, List.nil_append, Nat.reduceLT, Nat.reduceLeDiff, Nat.reduceMul, Nat.reduceSub, n_0, n_1, n_2, n_3, n_4, n_5, n_6, n_7, n_8, n_9, n_10, n_12, n_40, n_48, n_57, n_59, n_72, n_99, n_102, n_103, n_107, n_108, n_192, n_255, n_256, n_999, n_1000, n_104, nI_add, pk_mul, n_cl, n_inT, n_le, n_lt, n_eq, n_m1, n_m1', n_lem1, n_m1le, n_ltm1, n_m1lt, n_lepred, n_shl, fa_or, hV.2.1.1, hK.1, f1, f2, f3, hqk, fa_and, kn_andnot _ hm _ b2]
        refine ⟨fun z => by omega, fun _ => ⟨fun z => by omega, fun _ => ⟨fun z => by omega, fun _ => ⟨fun z => ?_, fun z => ?_⟩⟩⟩⟩
        · refine to s _ _ _ hs1 (by rw [kpy (Or.inr ht)]; exact hs) (put _ ht ?_) (ra_fs.rf.sw (Or.inl (by decide)))
          rw [ko, if_pos ⟨ht, rfl⟩, if_pos z]
        · refine to s _ _ _ hs1 (by rw [kpy (Or.inr ht)]; exact hs) (put _ ht ?_) (ra_fs.rf.sw (Or.inl (by decide)))
          rw [ko, if_pos ⟨ht, rfl⟩, if_neg z]
      · have two : (a 10 k = 1 → ∀ u' v', ∃ μ', ra_lx μ' (20 - k, 0, 0) ∧ I_Kn_readFacts a Z [.ref 54, .int (nI (2 ^ ab_hc a - 1))] σ0 30 μ' [.ref 54, .int (nI (2 ^ ab_hc a - 1)), .int (nI 0), .int (nI (k + 1)), u', v'] [] σ) ∧ (¬ a 10 k = 1 → ∀ u' v', ∃ μ', ra_lx μ' (20 - k, 0, 0) ∧ I_Kn_readFacts a Z [.ref 54, .int (nI (2 ^ ab_hc a - 1))] σ0 30 μ' [.ref 54, .int (nI (2 ^ ab_hc a - 1)), .int (nI s), .int (nI (k + 1)), u', v'] [] σ) := by
          refine ⟨fun z u' v' => to 0 σ _ _ (by omega) ⟨fun y => by omega, fun y => absurd y (kpn z ht)⟩ (same ht) ra_fs.rf, fun z u' v' => to s σ _ _ hs1 (by rw [kpy (Or.inl z)]; exact hs) (same ht) ra_fs.rf⟩
        simp (disch := omega) only [b_Kn_readFacts_185, b_Kn_readFacts_178, b_Kn_readFacts_177, b_Kn_readFacts_168, b_Kn_readFacts_159, b_Kn_readFacts_148, b_Kn_readFacts_146, b_Kn_readFacts_140, b_Kn_readFacts_138, b_Kn_readFacts_128, b_Kn_readFacts_123, b_Kn_readFacts_119, b_Kn_readFacts_114, b_Kn_readFacts_75, b_Kn_readFacts_74, b_Kn_readFacts_70, b_Kn_readFacts_54, b_Kn_readFacts_38, b_Kn_readFacts_30, b_Kn_readFacts_28, b_Kn_readFacts_15, b_Kn_readFacts_4, b_Kn_readFacts_0, e_il2, e_al0, e_il3, e_il5, e_il4, e_il1, e_is3i, e_is3r, e_is3n, e_is2i, e_is2r, e_is2n, e_is4i, e_is4r, e_is4n, e_is5i, e_is5r, e_is5n, e_inc3i, e_inc3r, e_inc3n, e_c, e_i2, e_dup2, e_b1, e_b2, e_gi, e_gr, e_ald, e_ast, e_zr, cl_1, cl_54, cl_55, ln_55, cl_56, ln_56, cl_57, ln_57, cl_58, ln_58, tg_54_0, tg_54_1, tg_54_2, tg_54_3, tg_54_4, Nat.reduceAdd, true_and, and_true, true_implies, not_true_eq_false, false_implies, not_false_eq_true, imp_self, forall_const, List.append_nil, ra_I, ra_J, ra_pad, true_or, or_true, Nat.reduceEqDiff, ra_bz, eq_self, if_true, if_false, false_and, and_false, Nat.zero_le, List.cons_append, List.nil_append, Nat.reduceLT, Nat.reduceLeDiff, Nat.reduceMul, Nat.reduceSub, n_0, n_1, n_2, n_3, n_4, n_5, n_6, n_7, n_8, n_9, n_10, n_12, n_40, n_48, n_57, n_59, n_72, n_99, n_102, n_103, n_107, n_108, n_192, n_255, n_256, n_999, n_1000, n_104, nI_add, pk_mul, n_cl, n_inT, n_le, n_lt, n_eq, n_m1, n_m1', n_lem1, n_m1le, n_ltm1, n_m1lt, n_lepred, n_shl, fa_or, hV.2.1.1, hK.1, f1, f2, f3]
        exact ⟨fun z => by omega, fun _ => ⟨fun z => ⟨fun y => two.1 y _ _, fun y => two.2 y _ _⟩, fun z => ⟨fun z2 => ⟨fun y => two.1 y _ _, fun y => two.2 y _ _⟩, fun z2 => absurd ⟨by omega, by omega⟩ ht⟩⟩⟩
    · simp (disch := omega) only [b_Kn_readFacts_185, b_Kn_readFacts_178, b_Kn_readFacts_177, b_Kn_readFacts_168, b_Kn_readFacts_159, b_Kn_readFacts_148, b_Kn_readFacts_146, b_Kn_readFacts_140, b_Kn_readFacts_138, b_Kn_readFacts_128, b_Kn_readFacts_123, b_Kn_readFacts_119, b_Kn_readFacts_114, b_Kn_readFacts_92, b_Kn_readFacts_75, b_Kn_readFacts_74, b_Kn_readFacts_70, b_Kn_readFacts_54, b_Kn_readFacts_30, b_Kn_readFacts_28, b_Kn_readFacts_15, b_Kn_readFacts_4, b_Kn_readFacts_0, e_il2, e_al0, e_il3, e_il5, e_il4, e_il1, e_is3i, e_is3r, e_is3n, e_is2i, e_is2r, e_is2n, e_is4i, e_is4r, e_is4n, e_is5i, e_is5r, e_is5n, e_inc3i, e_inc3r, e_inc3n, e_c, e_i2, e_dup2, e_b1, e_b2, e_gi, e_gr, e_ald, e_ast, e_zr, cl_1, cl_54, cl_55, ln_55, cl_56, ln_56, cl_57, ln_57, cl_58, ln_58, tg_54_0, tg_54_1, tg_54_2, tg_54_3, tg_54_4, Nat.reduceAdd, true_and, and_true, true_implies, not_true_eq_false, false_implies, not_false_eq_true, imp_self, forall_const, List.append_nil, ra_I, ra_J, ra_pad, true_or, or_true, Nat.reduceEqDiff, ra_bz, eq_self, if_true, if_false, false_and, and_false, Nat.zero_le, List.cons_append, List.nil_append, Nat.reduceLT, Nat.reduceLeDiff, Nat.reduceMul, Nat.reduceSub, n_0, n_1, n_2, n_3, n_4, n_5, n_6, n_7, n_8, n_9, n_10, n_12, n_40, n_48, n_57, n_59, n_72, n_99, n_102, n_103, n_107, n_108, n_192, n_255, n_256, n_999, n_1000, n_104, nI_add, pk_mul, n_cl, n_inT, n_le, n_lt, n_eq, n_m1, n_m1', n_lem1, n_m1le, n_ltm1, n_m1lt, n_lepred, n_shl, fa_or, hK.1]
      refine ⟨fun z => ⟨(0, 0, ab_hc a - 0), lx1 (by omega), rfl, rfl, 0, k, s, u, v, hV, hK, hf, by omega, hk, hs1, rfl, by rw [← show k = a 7 0 by omega]; exact hs, fun j hj => ?_, rfl⟩, fun z => by omega⟩
      rw [if_neg (by omega), ← show k = a 7 0 by omega]
      exact hq j hj
  · -- 148
    intro as σ0 Z h0 μ L S σ hI
    obtain ⟨rfl, rfl, h, k, s, u, v, hV, hK, hf, hh, hk, hs1, rfl, hs, hq, rfl⟩ := hI
    obtain ⟨_, e, hV0, hK0, e2, hZ⟩ := x_f1 h0
    cases e
    by_cases hlt : h < ab_hc a
    · have hqh := hq h hlt
      rw [if_neg (Nat.lt_irrefl _)] at hqh
      have fin : ∀ y : Nat, y = kO a h → ∃ μ', ra_lx μ' (0, 0, ab_hc a - h) ∧ I_Kn_readFacts a Z [.ref 54, .int (nI (2 ^ ab_hc a - 1))] σ0 148 μ' [.ref 54, .int (nI (2 ^ ab_hc a - 1)), .int (nI s), .int (nI (h + 1)), u, v] [] (ra_sw σ 58 h (nI y)) := by
        intro y hy
        have hf1 : ra_fs [58] [] σ (ra_sw σ 58 h (nI y)) := ra_fs.rf.sw (Or.inl (by decide))
        refine ⟨(0, 0, ab_hc a - (h + 1)), lx3 (by omega), rfl, rfl, h + 1, k, s, u, v, hV.fs hf1 (by decide), hK.fs hf1 (by decide), hf.tr hf1 (by decide) (by decide), by omega, hk, hs1, rfl, hs, fun j hj => ?_, rfl⟩
        rw [sw_at, if_pos rfl]
        by_cases e : j = h
        · rw [if_pos e, if_pos (by omega), hy, e]
        · rw [if_neg e, hq j hj]
          by_cases e2 : j < h
          · rw [if_pos e2, if_pos (by omega)]
          · rw [if_neg e2, if_neg (by omega)]
      simp (disch := omega) only [b_Kn_readFacts_178, b_Kn_readFacts_177, b_Kn_readFacts_168, b_Kn_readFacts_159, b_Kn_readFacts_148, b_Kn_readFacts_146, b_Kn_readFacts_140, b_Kn_readFacts_138, b_Kn_readFacts_128, b_Kn_readFacts_123, b_Kn_readFacts_119, b_Kn_readFacts_114, b_Kn_readFacts_92, b_Kn_readFacts_75, b_Kn_readFacts_74, b_Kn_readFacts_70, b_Kn_readFacts_54, b_Kn_readFacts_38, b_Kn_readFacts_30, b_Kn_readFacts_28, b_Kn_readFacts_15, b_Kn_readFacts_4, b_Kn_readFacts_0, e_il2, e_al0, e_il3, e_il5, e_il4, e_il1, e_is3i, e_is3r, e_is3n, e_is2i, e_is2r, e_is2n, e_is4i, e_is4r, e_is4n, e_is5i, e_is5r, e_is5n, e_inc3i, e_inc3r, e_inc3n, e_c, e_i2, e_dup2, e_b1, e_b2, e_gi, e_gr, e_ald, e_ast, e_zr, cl_1, cl_54, cl_55, ln_55, cl_56, ln_56, cl_57, ln_57, cl_58, ln_58, tg_54_0, tg_54_1, tg_54_2, tg_54_3, tg_54_4, Nat.reduceAdd, true_and, and_true, true_implies, not_true_eq_false, false_implies, not_false_eq_true, imp_self, forall_const, List.append_nil, ra_I, ra_J, ra_pad, true_or, or_true, Nat.reduceEqDiff, ra_bz, eq_self, if_true, if_false, false_and, and_false, Nat.zero_le, List.cons_append, List.nil_append, Nat.reduceLT, Nat.reduceLeDiff, Nat.reduceMul, Nat.reduceSub, n_0, n_1, n_2, n_3, n_4, n_5, n_6, n_7, n_8, n_9, n_10, n_12, n_40, n_48, n_57, n_59, n_72, n_99, n_102, n_103, n_107, n_108, n_192, n_255, n_256, n_999, n_1000, n_104, nI_add, pk_mul, n_cl, n_inT, n_le, n_lt, n_eq, n_m1, n_m1', n_lem1, n_m1le, n_ltm1, n_m1lt, n_lepred, n_shl, fa_or, hV.2.1.1, hqh]
      refine ⟨fun z => by omega, fun _ => ⟨fun z => fin _ ?_, fun z => fin _ ?_⟩⟩
      · unfold kO
        rw [if_neg (fun y => by have := hs.mpr y; omega)]
      · unfold kO
        rw [if_pos (hs.mp (by omega))]
    · have h9 := hZ σ (fun j hj => by rw [hq j hj, if_pos (by omega)]) hf
      simp (disch := omega) only [b_Kn_readFacts_185, b_Kn_readFacts_178, b_Kn_readFacts_177, b_Kn_readFacts_168, b_Kn_readFacts_148, b_Kn_readFacts_146, b_Kn_readFacts_140, b_Kn_readFacts_138, b_Kn_readFacts_128, b_Kn_readFacts_123, b_Kn_readFacts_119, b_Kn_readFacts_114, b_Kn_readFacts_92, b_Kn_readFacts_75, b_Kn_readFacts_74, b_Kn_readFacts_70, b_Kn_readFacts_54, b_Kn_readFacts_38, b_Kn_readFacts_30, b_Kn_readFacts_28, b_Kn_readFacts_15, b_Kn_readFacts_4, b_Kn_readFacts_0, e_il2, e_al0, e_il3, e_il5, e_il4, e_il1, e_is3i, e_is3r, e_is3n, e_is2i, e_is2r, e_is2n, e_is4i, e_is4r, e_is4n, e_is5i, e_is5r, e_is5n, e_inc3i, e_inc3r, e_inc3n, e_c, e_i2, e_dup2, e_b1, e_b2, e_gi, e_gr, e_ald, e_ast, e_zr, cl_1, cl_54, cl_55, ln_55, cl_56, ln_56, cl_57, ln_57, cl_58, ln_58, tg_54_0, tg_54_1, tg_54_2, tg_54_3, tg_54_4, Nat.reduceAdd, true_and, and_true, true_implies, not_true_eq_false, false_implies, not_false_eq_true, imp_self, forall_const, List.append_nil, ra_I, ra_J, ra_pad, true_or, or_true, Nat.reduceEqDiff, ra_bz, eq_self, if_true, if_false, false_and, and_false, Nat.zero_le, List.cons_append, List.nil_append, Nat.reduceLT, Nat.reduceLeDiff, Nat.reduceMul, Nat.reduceSub, n_0, n_1, n_2, n_3, n_4, n_5, n_6, n_7, n_8, n_9, n_10, n_12, n_40, n_48, n_57, n_59, n_72, n_99, n_102, n_103, n_107, n_108, n_192, n_255, n_256, n_999, n_1000, n_104, nI_add, pk_mul, n_cl, n_inT, n_le, n_lt, n_eq, n_m1, n_m1', n_lem1, n_m1le, n_ltm1, n_m1lt, n_lepred, n_shl, fa_or, hV.2.1.1]
      refine ⟨fun _ => ⟨by omega, ?_⟩, fun z => by omega⟩
      rcases (show s = 0 ∨ s = 1 by omega) with e | e
      · rw [if_neg (fun y => by have := hs.mpr y; omega)] at h9
        rw [e]
        exact h9
      · rw [if_pos (hs.mp e)] at h9
        rw [e]
        exact h9
def kfr (m s : Nat) : Nat := m &&& (s ^^^ 4294967295)
theorem kfr_e (m s : Nat) : nI m &&& (nI s ^^^ -nI 1) = nI (kfr m s) := by
  rw [show (-nI 1 : Int32) = nI 4294967295 from by decide, fb_xorI, fa_and]
  rfl
theorem kfr_lt {m s : Nat} (h : m < 256) : kfr m s < 256 := Nat.lt_of_le_of_lt Nat.and_le_left h
theorem kfr_tb {m s r : Nat} (hr : r < 32) : (kfr m s).testBit r = (m.testBit r && !s.testBit r) := by
  unfold kfr
  rw [Nat.testBit_and, Nat.testBit_xor, show (4294967295 : Nat) = 2 ^ 32 - 1 from rfl, Nat.testBit_two_pow_sub_one, decide_eq_true hr, Bool.xor_true]
theorem clr_xor : ∀ t, t < 256 → ∀ r, r < 8 → t.testBit r = true → kn_clr t r = t ^^^ 2 ^ r := by decide +kernel
def kBs (a : Ab) (s : Nat) : Nat → Nat := fun r => if s.testBit r = false ∧ kOc a (n_pop s) r = true then kB (ab_hc a) (kOc a) (s ||| 2 ^ r) else 0
def sp_Kn_countBehind (a : Ab) : ra_Sp := ra_f1 54 (fun x σ Z => rc_V a σ ∧ (∀ h, h < ab_hc a → σ 58 h = nI (kO a h)) ∧ x = nI (2 ^ ab_hc a - 1) ∧ ∀ σ', (∀ t, t < 2 ^ ab_hc a → σ' 60 t = nI (kB (ab_hc a) (kOc a) t)) → ra_fs [60] [] σ σ' → Z none σ')
theorem q_Kn_countBehind {a : Ab} {oo : Nat} {x : Int32} {σ : ra_St} {Z : ra_R} : sp_Kn_countBehind a [.ref oo, .int x] σ Z = (oo = 54 ∧ (rc_V a σ ∧ (∀ h, h < ab_hc a → σ 58 h = nI (kO a h)) ∧ x = nI (2 ^ ab_hc a - 1) ∧ ∀ σ', (∀ t, t < 2 ^ ab_hc a → σ' 60 t = nI (kB (ab_hc a) (kOc a) t)) → ra_fs [60] [] σ σ' → Z none σ')) := rfl
def I_Kn_countBehind (a : Ab) (Z : ra_R) (as : List Value) (σ0 : ra_St) (t : Nat) (μ : ra_M) : ra_K := fun L S σ => S = [] ∧ as = [.ref 54, .int (nI (2 ^ ab_hc a - 1))] ∧ ∃ (s r : Nat) (u v w : Value), ra_fs [60] [] σ0 σ ∧ s < 2 ^ ab_hc a ∧ r ≤ ab_hc a ∧
  match t with
  | 11 => μ = (s, 30, 0) ∧ (∀ j, s ≤ j → j < 2 ^ ab_hc a → σ 60 j = nI (kB (ab_hc a) (kOc a) j)) ∧ L = [.ref 54, .int (nI (2 ^ ab_hc a - 1)), .int (nI s - nI 1), u, v, w]
  | _ => μ = (s + 1, 0, ab_hc a - r) ∧ s + 1 < 2 ^ ab_hc a ∧ (∀ j, s < j → j < 2 ^ ab_hc a → σ 60 j = nI (kB (ab_hc a) (kOc a) j)) ∧ L = [.ref 54, .int (nI (2 ^ ab_hc a - 1)), .int (nI s), .int (nI (kfr (kO a (n_pop s)) s)), .int (nI (fb_sm (kBs a s) r)), .int (nI r)]
theorem k_Kn_countBehind {l : Launch} {X : ra_X} {a : Ab} : ra_MOK l X mi_Kn_countBehind (sp_Kn_countBehind a) := by
  have h8 := ab_hc_8 a
  obtain ⟨p1, p2⟩ := pow_256 a
  refine g_Kn_countBehind k_J_bitCount k_R_has (sp_Kn_countBehind a) (I_Kn_countBehind a) ?_ ?_ ?_
  · intro as σ Z _ _ h
    obtain ⟨_, rfl, hV, hO, rfl, hZ⟩ := x_f1 h
    simp (disch := omega) only [b_Kn_countBehind_96, b_Kn_countBehind_82, b_Kn_countBehind_73, b_Kn_countBehind_72, b_Kn_countBehind_58, b_Kn_countBehind_47, b_Kn_countBehind_35, b_Kn_countBehind_15, b_Kn_countBehind_11, b_Kn_countBehind_0, e_al0, e_il2, e_il4, e_il5, e_il3, e_il1, e_is4i, e_is4r, e_is4n, e_is3i, e_is3r, e_is3n, e_is5i, e_is5r, e_is5n, e_is2i, e_is2r, e_is2n, e_inc2i, e_inc2r, e_inc2n, e_inc5i, e_inc5r, e_inc5n, e_c, e_i2, e_b1, e_b2, e_gi, e_gr, e_ald, e_ast, e_vr, e_cs2, e_cs1, e_c10, e_c1i, e_c1r, e_sh0, e_sh1, e_sh2, e_sh3, e_sh4, e_tls, e_tln, e_tl0, e_tl1, cl_1, cl_54, cl_58, ln_58, cl_60, ln_60, tg_54_0, tg_54_4, tg_54_6, q_J_bitCount, q_R_has, Nat.reduceAdd, true_and, and_true, true_implies, not_true_eq_false, false_implies, not_false_eq_true, imp_self, forall_const, List.append_nil, ra_I, ra_J, ra_pad, true_or, or_true, Nat.reduceEqDiff, ra_bz, eq_self, if_true, if_false, false_and, and_false, Nat.zero_le, List.cons_append, List.nil_append, Nat.reduceLT, Nat.reduceLeDiff, Nat.reduceMul, Nat.reduceSub, n_0, n_1, n_2, n_3, n_4, n_5, n_6, n_7, n_8, n_9, n_10, n_12, n_40, n_48, n_57, n_59, n_72, n_99, n_102, n_103, n_107, n_108, n_192, n_255, n_256, n_999, n_1000, n_104, nI_add, pk_mul, n_cl, n_inT, n_le, n_lt, n_eq, n_m1, n_m1', n_lem1, n_m1le, n_ltm1, n_m1lt, n_lepred, n_shl, fa_or]
    refine ⟨(2 ^ ab_hc a - 1, 30, 0), rfl, rfl, 2 ^ ab_hc a - 1, 0, _, _, _, ra_fs.rf.sw (Or.inl (by decide)), by omega, by omega, rfl, fun j hj1 hj2 => ?_, rfl⟩
    rw [sw_at, if_pos rfl, if_pos (by omega), show j = 2 ^ ab_hc a - 1 by omega]
    unfold kB
    rw [pop_full h8, Nat.sub_self, bw]
  · -- 11
    intro as σ0 Z h0 μ L S σ hI
    obtain ⟨rfl, rfl, s, r, u, v, w, hf, hs, hr, rfl, hq, rfl⟩ := hI
    obtain ⟨_, e, hV0, hO0, e2, hZ⟩ := x_f1 h0
    cases e
    cases s with
    | zero =>
      simp (disch := omega) only [b_Kn_countBehind_96, b_Kn_countBehind_82, b_Kn_countBehind_73, b_Kn_countBehind_72, b_Kn_countBehind_58, b_Kn_countBehind_47, b_Kn_countBehind_35, b_Kn_countBehind_15, b_Kn_countBehind_11, b_Kn_countBehind_0, e_al0, e_il2, e_il4, e_il5, e_il3, e_il1, e_is4i, e_is4r, e_is4n, e_is3i, e_is3r, e_is3n, e_is5i, e_is5r, e_is5n, e_is2i, e_is2r, e_is2n, e_inc2i, e_inc2r, e_inc2n, e_inc5i, e_inc5r, e_inc5n, e_c, e_i2, e_b1, e_b2, e_gi, e_gr, e_ald, e_ast, e_vr, e_cs2, e_cs1, e_c10, e_c1i, e_c1r, e_sh0, e_sh1, e_sh2, e_sh3, e_sh4, e_tls, e_tln, e_tl0, e_tl1, cl_1, cl_54, cl_58, ln_58, cl_60, ln_60, tg_54_0, tg_54_4, tg_54_6, q_J_bitCount, q_R_has, Nat.reduceAdd, true_and, and_true, true_implies, not_true_eq_false, false_implies, not_false_eq_true, imp_self, forall_const, List.append_nil, ra_I, ra_J, ra_pad, true_or, or_true, Nat.reduceEqDiff, ra_bz, eq_self, if_true, if_false, false_and, and_false, Nat.zero_le, List.cons_append, List.nil_append, Nat.reduceLT, Nat.reduceLeDiff, Nat.reduceMul, Nat.reduceSub, n_0, n_1, n_2, n_3, n_4, n_5, n_6, n_7, n_8, n_9, n_10, n_12, n_40, n_48, n_57, n_59, n_72, n_99, n_102, n_103, n_107, n_108, n_192, n_255, n_256, n_999, n_1000, n_104, nI_add, pk_mul, n_cl, n_inT, n_le, n_lt, n_eq, n_m1, n_m1', n_lem1, n_m1le, n_ltm1, n_m1lt, n_lepred, n_shl, fa_or, n_predlt]
      exact hZ σ (fun t ht => hq t (by omega) ht) hf
    | succ s =>
      rw [show nI (s + 1) - nI 1 = nI s by rw [n_sub (by omega)]; rfl]
      have hp := n_pop_lt' (ab_hc a) (by omega) s (by omega) (by omega)
      have hO : σ 58 (n_pop s) = nI (kO a (n_pop s)) := by
        rw [hf 58 _ (by decide) (by simp)]
        exact hO0 _ hp
      simp (disch := omega) only [b_Kn_countBehind_96, b_Kn_countBehind_82, b_Kn_countBehind_73, b_Kn_countBehind_72, b_Kn_countBehind_58, b_Kn_countBehind_47, b_Kn_countBehind_35, b_Kn_countBehind_15, b_Kn_countBehind_11, b_Kn_countBehind_0, e_al0, e_il2, e_il4, e_il5, e_il3, e_il1, e_is4i, e_is4r, e_is4n, e_is3i, e_is3r, e_is3n, e_is5i, e_is5r, e_is5n, e_is2i, e_is2r, e_is2n, e_inc2i, e_inc2r, e_inc2n, e_inc5i, e_inc5r, e_inc5n, e_c, e_i2, e_b1, e_b2, e_gi, e_gr, e_ald, e_ast, e_vr, e_cs2, e_cs1, e_c10, e_c1i, e_c1r, e_sh0, e_sh1, e_sh2, e_sh3, e_sh4, e_tls, e_tln, e_tl0, e_tl1, cl_1, cl_54, cl_58, ln_58, cl_60, ln_60, tg_54_0, tg_54_4, tg_54_6, q_J_bitCount, q_R_has, Nat.reduceAdd, true_and, and_true, true_implies, not_true_eq_false, false_implies, not_false_eq_true, imp_self, forall_const, List.append_nil, ra_I, ra_J, ra_pad, true_or, or_true, Nat.reduceEqDiff, ra_bz, eq_self, if_true, if_false, false_and, and_false, Nat.zero_le, List.cons_append, List.nil_append, Nat.reduceLT, Nat.reduceLeDiff, Nat.reduceMul, Nat.reduceSub, n_0, n_1, n_2, n_3, n_4, n_5, n_6, n_7, n_8, n_9, n_10, n_12, n_40, n_48, n_57, n_59, n_72, n_99, n_102, n_103, n_107, n_108, n_192, n_255, n_256, n_999, n_1000, n_104, nI_add, pk_mul, n_cl, n_inT, n_le, n_lt, n_eq, n_m1, n_m1', n_lem1, n_m1le, n_ltm1, n_m1lt, n_lepred, n_shl, fa_or, hO, kfr_e]
      exact ⟨fun z => by omega, fun _ => ⟨(s + 1, 0, ab_hc a - 0), lx2 (by omega), rfl, rfl, s, 0, u, v, w, hf, by omega, by omega, rfl, hs, fun j h1 h2 => hq j (by omega) h2, rfl⟩⟩
  · -- 35
    intro as σ0 Z h0 μ L S σ hI
    obtain ⟨rfl, rfl, s, r, u, v, w, hf, hs, hr, rfl, hs2, hq, rfl⟩ := hI
    obtain ⟨_, e, hV0, hO0, e2, hZ⟩ := x_f1 h0
    cases e
    have hV := hV0.fs hf (by decide)
    have hp := n_pop_lt' (ab_hc a) (by omega) s (by omega) (by omega)
    have hfr := kfr_lt (s := s) (kO_lt a (n_pop s))
    by_cases hlt : r < ab_hc a
    · have hlt2 : s ||| 2 ^ r < 2 ^ ab_hc a := Nat.or_lt_two_pow (by omega) (Nat.pow_lt_pow_right (by decide) hlt)
      have fin : ∀ y : Nat, y = fb_sm (kBs a s) (r + 1) → ∃ μ', ra_lx μ' (s + 1, 0, ab_hc a - r) ∧ I_Kn_countBehind a Z [.ref 54, .int (nI (2 ^ ab_hc a - 1))] σ0 35 μ' [.ref 54, .int (nI (2 ^ ab_hc a - 1)), .int (nI s), .int (nI (kfr (kO a (n_pop s)) s)), .int (nI y), .int (nI (r + 1))] [] σ := by
        intro y hy
        rw [hy]
        exact ⟨(s + 1, 0, ab_hc a - (r + 1)), lx3 (by omega), rfl, rfl, s, r + 1, u, v, w, hf, hs, by omega, rfl, hs2, hq, rfl⟩
      simp (disch := omega) only [b_Kn_countBehind_96, b_Kn_countBehind_73, b_Kn_countBehind_72, b_Kn_countBehind_58, b_Kn_countBehind_47, b_Kn_countBehind_35, b_Kn_countBehind_15, b_Kn_countBehind_11, b_Kn_countBehind_0, e_al0, e_il2, e_il4, e_il5, e_il3, e_il1, e_is4i, e_is4r, e_is4n, e_is3i, e_is3r, e_is3n, e_is5i, e_is5r, e_is5n, e_is2i, e_is2r, e_is2n, e_inc2i, e_inc2r, e_inc2n, e_inc5i, e_inc5r, e_inc5n, e_c, e_i2, e_b1, e_b2, e_gi, e_gr, e_ald, e_ast, e_vr, e_cs2, e_cs1, e_c10, e_c1i, e_c1r, e_sh0, e_sh1, e_sh2, e_sh3, e_sh4, e_tls, e_tln, e_tl0, e_tl1, cl_1, cl_54, cl_58, ln_58, cl_60, ln_60, tg_54_0, tg_54_4, tg_54_6, q_J_bitCount, q_R_has, Nat.reduceAdd, true_and, and_true, true_implies, not_true_eq_false, false_implies, not_false_eq_true, imp_self, forall_const, List.append_nil, ra_I, ra_J, ra_pad, true_or, or_true, Nat.reduceEqDiff, ra_bz, eq_self, if_true, if_false, false_and, and_false, Nat.zero_le, List.cons_append, List.nil_append, Nat.reduceLT, Nat.reduceLeDiff, Nat.reduceMul, Nat.reduceSub, n_0, n_1, n_2, n_3, n_4, n_5, n_6, n_7, n_8, n_9, n_10, n_12, n_40, n_48, n_57, n_59, n_72, n_99, n_102, n_103, n_107, n_108, n_192, n_255, n_256, n_999, n_1000, n_104, nI_add, pk_mul, n_cl, n_inT, n_le, n_lt, n_eq, n_m1, n_m1', n_lem1, n_m1le, n_ltm1, n_m1lt, n_lepred, n_shl, fa_or, hV.2.1.1]
      refine ⟨fun z => by omega, fun _ => ⟨fun z => ?_, fun z => ?_⟩⟩
      · rw [kfr_tb (by omega), Bool.and_eq_true, Bool.not_eq_true'] at z
        have hgt := or_gt z.2
        rw [hq _ hgt hlt2, nI_add]
        refine fin _ ?_
        rw [fb_sm_succ]
        congr 1
        unfold kBs
        rw [if_pos ⟨z.2, z.1⟩]
      · refine fin _ ?_
        rw [fb_sm_succ]
        congr 1
        unfold kBs
        rw [if_neg (fun y => z ?_)]
        rw [kfr_tb (by omega), y.1, show (kO a (n_pop s)).testBit r = true from y.2]
        rfl
    · simp (disch := omega) only [b_Kn_countBehind_96, b_Kn_countBehind_82, b_Kn_countBehind_73, b_Kn_countBehind_72, b_Kn_countBehind_58, b_Kn_countBehind_35, b_Kn_countBehind_15, b_Kn_countBehind_11, b_Kn_countBehind_0, e_al0, e_il2, e_il4, e_il5, e_il3, e_il1, e_is4i, e_is4r, e_is4n, e_is3i, e_is3r, e_is3n, e_is5i, e_is5r, e_is5n, e_is2i, e_is2r, e_is2n, e_inc2i, e_inc2r, e_inc2n, e_inc5i, e_inc5r, e_inc5n, e_c, e_i2, e_b1, e_b2, e_gi, e_gr, e_ald, e_ast, e_vr, e_cs2, e_cs1, e_c10, e_c1i, e_c1r, e_sh0, e_sh1, e_sh2, e_sh3, e_sh4, e_tls, e_tln, e_tl0, e_tl1, cl_1, cl_54, cl_58, ln_58, cl_60, ln_60, tg_54_0, tg_54_4, tg_54_6, q_J_bitCount, q_R_has, Nat.reduceAdd, true_and, and_true, true_implies, not_true_eq_false, false_implies, not_false_eq_true, imp_self, forall_const, List.append_nil, ra_I, ra_J, ra_pad, true_or, or_true, Nat.reduceEqDiff, ra_bz, eq_self, if_true, if_false, false_and, and_false, Nat.zero_le, List.cons_append, List.nil_append, Nat.reduceLT, Nat.reduceLeDiff, Nat.reduceMul, Nat.reduceSub, n_0, n_1, n_2, n_3, n_4, n_5, n_6, n_7, n_8, n_9, n_10, n_12, n_40, n_48, n_57, n_59, n_72, n_99, n_102, n_103, n_107, n_108, n_192, n_255, n_256, n_999, n_1000, n_104, nI_add, pk_mul, n_cl, n_inT, n_le, n_lt, n_eq, n_m1, n_m1', n_lem1, n_m1le, n_ltm1, n_m1lt, n_lepred, n_shl, fa_or, hV.2.1.1]
      refine ⟨fun _ => ⟨(s, 30, 0), lx1 (by omega), rfl, rfl, s, 0, _, _, _, hf.sw (Or.inl (by decide)), by omega, by omega, rfl, fun j h1 h2 => ?_, by rw [Int32.sub_eq_add_neg]⟩, fun z => by omega⟩
      rw [sw_at, if_pos rfl]
      split
      · next e => rw [e, kB_step h8 hp, show r = ab_hc a by omega]; rfl
      · exact hq j (by omega) h2
def kFs (a : Ab) (s : Nat) : Nat → Nat := fun r => if s.testBit r = true ∧ kOc a (n_pop s - 1) r = true then kF (ab_hc a) (kOc a) (s ^^^ 2 ^ r) else 0
def sp_Kn_countAhead (a : Ab) : ra_Sp := ra_f1 54 (fun x σ Z => rc_V a σ ∧ (∀ h, h < ab_hc a → σ 58 h = nI (kO a h)) ∧ x = nI (2 ^ ab_hc a - 1) ∧ ∀ σ', (∀ t, t < 2 ^ ab_hc a → σ' 59 t = nI (kF (ab_hc a) (kOc a) t)) → ra_fs [59] [] σ σ' → Z none σ')
theorem q_Kn_countAhead {a : Ab} {oo : Nat} {x : Int32} {σ : ra_St} {Z : ra_R} : sp_Kn_countAhead a [.ref oo, .int x] σ Z = (oo = 54 ∧ (rc_V a σ ∧ (∀ h, h < ab_hc a → σ 58 h = nI (kO a h)) ∧ x = nI (2 ^ ab_hc a - 1) ∧ ∀ σ', (∀ t, t < 2 ^ ab_hc a → σ' 59 t = nI (kF (ab_hc a) (kOc a) t)) → ra_fs [59] [] σ σ' → Z none σ')) := rfl
def I_Kn_countAhead (a : Ab) (Z : ra_R) (as : List Value) (σ0 : ra_St) (t : Nat) (μ : ra_M) : ra_K := fun L S σ => S = [] ∧ as = [.ref 54, .int (nI (2 ^ ab_hc a - 1))] ∧ ∃ (s r : Nat) (u v w y : Value), ra_fs [59] [] σ0 σ ∧ 1 ≤ s ∧ s ≤ 2 ^ ab_hc a ∧ r ≤ ab_hc a ∧ (∀ j, j < s → σ 59 j = nI (kF (ab_hc a) (kOc a) j)) ∧
  match t with
  | 9 => μ = (2 ^ ab_hc a - s, 30, 0) ∧ L = [.ref 54, .int (nI (2 ^ ab_hc a - 1)), .int (nI s), u, v, w, y]
  | _ => μ = (2 ^ ab_hc a - s, 0, ab_hc a - r) ∧ s < 2 ^ ab_hc a ∧ L = [.ref 54, .int (nI (2 ^ ab_hc a - 1)), .int (nI s), u, .int (nI (kO a (n_pop s - 1) &&& s)), .int (nI (fb_sm (kFs a s) r)), .int (nI r)]
theorem k_Kn_countAhead {l : Launch} {X : ra_X} {a : Ab} : ra_MOK l X mi_Kn_countAhead (sp_Kn_countAhead a) := by
  have h8 := ab_hc_8 a
  obtain ⟨p1, p2⟩ := pow_256 a
  refine g_Kn_countAhead k_J_bitCount k_R_has (sp_Kn_countAhead a) (I_Kn_countAhead a) ?_ ?_ ?_
  · intro as σ Z _ _ h
    obtain ⟨_, rfl, hV, hO, rfl, hZ⟩ := x_f1 h
    simp (disch := omega) only [b_Kn_countAhead_101, b_Kn_countAhead_87, b_Kn_countAhead_78, b_Kn_countAhead_77, b_Kn_countAhead_61, b_Kn_countAhead_49, b_Kn_countAhead_37, b_Kn_countAhead_14, b_Kn_countAhead_9, b_Kn_countAhead_0, e_al0, e_il2, e_il5, e_il6, e_il4, e_il3, e_il1, e_is5i, e_is5r, e_is5n, e_is3i, e_is3r, e_is3n, e_is4i, e_is4r, e_is4n, e_is6i, e_is6r, e_is6n, e_is2i, e_is2r, e_is2n, e_inc2i, e_inc2r, e_inc2n, e_inc6i, e_inc6r, e_inc6n, e_c, e_i2, e_b1, e_b2, e_gi, e_gr, e_ald, e_ast, e_vr, e_cs2, e_cs1, e_c10, e_c1i, e_c1r, e_sh0, e_sh1, e_sh2, e_sh3, e_sh4, e_tls, e_tln, e_tl0, e_tl1, cl_1, cl_54, cl_58, ln_58, cl_59, ln_59, tg_54_0, tg_54_4, tg_54_5, q_J_bitCount, q_R_has, Nat.reduceAdd, true_and, and_true, true_implies, not_true_eq_false, false_implies, not_false_eq_true, imp_self, forall_const, List.append_nil, ra_I, ra_J, ra_pad, true_or, or_true, Nat.reduceEqDiff, ra_bz, eq_self, if_true, if_false, false_and, and_false, Nat.zero_le, List.cons_append, List.nil_append, Nat.reduceLT, Nat.reduceLeDiff, Nat.reduceMul, Nat.reduceSub, n_0, n_1, n_2, n_3, n_4, n_5, n_6, n_7, n_8, n_9, n_10, n_12, n_40, n_48, n_57, n_59, n_72, n_99, n_102, n_103, n_107, n_108, n_192, n_255, n_256, n_999, n_1000, n_104, nI_add, pk_mul, n_cl, n_inT, n_le, n_lt, n_eq, n_m1, n_m1', n_lem1, n_m1le, n_ltm1, n_m1lt, n_lepred, n_shl, fa_or]
    refine ⟨(2 ^ ab_hc a - 1, 30, 0), rfl, rfl, 1, 0, _, _, _, _, ra_fs.rf.sw (Or.inl (by decide)), by omega, by omega, by omega, fun j hj => ?_, rfl, rfl⟩
    rw [sw_at, if_pos rfl, if_pos (by omega), show j = 0 by omega]
    unfold kF
    rw [pop_0, fw, if_pos rfl]
  · -- 9
    intro as σ0 Z h0 μ L S σ hI
    obtain ⟨rfl, rfl, s, r, u, v, w, y, hf, hs1, hs, hr, hq, rfl, rfl⟩ := hI
    obtain ⟨_, e, hV0, hO0, e2, hZ⟩ := x_f1 h0
    cases e
    by_cases hlt : s < 2 ^ ab_hc a
    · obtain ⟨k, hk⟩ := pop_pos h8 hlt (by omega)
      have hp := n_pop_lt h8 hlt
      have hO : σ 58 (n_pop s - 1) = nI (kO a (n_pop s - 1)) := by
        rw [hf 58 _ (by decide) (by simp)]
        exact hO0 _ (by omega)
      simp (disch := omega) only [b_Kn_countAhead_87, b_Kn_countAhead_78, b_Kn_countAhead_77, b_Kn_countAhead_61, b_Kn_countAhead_49, b_Kn_countAhead_37, b_Kn_countAhead_14, b_Kn_countAhead_9, b_Kn_countAhead_0, e_al0, e_il2, e_il5, e_il6, e_il4, e_il3, e_il1, e_is5i, e_is5r, e_is5n, e_is3i, e_is3r, e_is3n, e_is4i, e_is4r, e_is4n, e_is6i, e_is6r, e_is6n, e_is2i, e_is2r, e_is2n, e_inc2i, e_inc2r, e_inc2n, e_inc6i, e_inc6r, e_inc6n, e_c, e_i2, e_b1, e_b2, e_gi, e_gr, e_ald, e_ast, e_vr, e_cs2, e_cs1, e_c10, e_c1i, e_c1r, e_sh0, e_sh1, e_sh2, e_sh3, e_sh4, e_tls, e_tln, e_tl0, e_tl1, cl_1, cl_54, cl_58, ln_58, cl_59, ln_59, tg_54_0, tg_54_4, tg_54_5, q_J_bitCount, q_R_has, Nat.reduceAdd, true_and, and_true, true_implies, not_true_eq_false, false_implies, not_false_eq_true, imp_self, forall_const, List.append_nil, ra_I, ra_J, ra_pad, true_or, or_true, Nat.reduceEqDiff, ra_bz, eq_self, if_true, if_false, false_and, and_false, Nat.zero_le, List.cons_append, List.nil_append, Nat.reduceLT, Nat.reduceLeDiff, Nat.reduceMul, Nat.reduceSub, n_0, n_1, n_2, n_3, n_4, n_5, n_6, n_7, n_8, n_9, n_10, n_12, n_40, n_48, n_57, n_59, n_72, n_99, n_102, n_103, n_107, n_108, n_192, n_255, n_256, n_999, n_1000, n_104, nI_add, pk_mul, n_cl, n_inT, n_le, n_lt, n_eq, n_m1, n_m1', n_lem1, n_m1le, n_ltm1, n_m1lt, n_lepred, n_shl, fa_or, n_sub, hO, fa_and]
      exact ⟨fun z => by omega, fun _ => ⟨(2 ^ ab_hc a - s, 0, ab_hc a - 0), lx2 (by omega), rfl, rfl, s, 0, _, v, w, y, hf, hs1, hs, by omega, hq, rfl, hlt, rfl⟩⟩
    · simp (disch := omega) only [b_Kn_countAhead_101, b_Kn_countAhead_87, b_Kn_countAhead_78, b_Kn_countAhead_77, b_Kn_countAhead_61, b_Kn_countAhead_49, b_Kn_countAhead_37, b_Kn_countAhead_9, b_Kn_countAhead_0, e_al0, e_il2, e_il5, e_il6, e_il4, e_il3, e_il1, e_is5i, e_is5r, e_is5n, e_is3i, e_is3r, e_is3n, e_is4i, e_is4r, e_is4n, e_is6i, e_is6r, e_is6n, e_is2i, e_is2r, e_is2n, e_inc2i, e_inc2r, e_inc2n, e_inc6i, e_inc6r, e_inc6n, e_c, e_i2, e_b1, e_b2, e_gi, e_gr, e_ald, e_ast, e_vr, e_cs2, e_cs1, e_c10, e_c1i, e_c1r, e_sh0, e_sh1, e_sh2, e_sh3, e_sh4, e_tls, e_tln, e_tl0, e_tl1, cl_1, cl_54, cl_58, ln_58, cl_59, ln_59, tg_54_0, tg_54_4, tg_54_5, q_J_bitCount, q_R_has, Nat.reduceAdd, true_and, and_true, true_implies, not_true_eq_false, false_implies, not_false_eq_true, imp_self, forall_const, List.append_nil, ra_I, ra_J, ra_pad, true_or, or_true, Nat.reduceEqDiff, ra_bz, eq_self, if_true, if_false, false_and, and_false, Nat.zero_le, List.cons_append, List.nil_append, Nat.reduceLT, Nat.reduceLeDiff, Nat.reduceMul, Nat.reduceSub, n_0, n_1, n_2, n_3, n_4, n_5, n_6, n_7, n_8, n_9, n_10, n_12, n_40, n_48, n_57, n_59, n_72, n_99, n_102, n_103, n_107, n_108, n_192, n_255, n_256, n_999, n_1000, n_104, nI_add, pk_mul, n_cl, n_inT, n_le, n_lt, n_eq, n_m1, n_m1', n_lem1, n_m1le, n_ltm1, n_m1lt, n_lepred, n_shl, fa_or]
      exact ⟨fun _ => hZ σ (fun t ht => hq t (by omega)) hf, fun z => by omega⟩
  · -- 37
    intro as σ0 Z h0 μ L S σ hI
    obtain ⟨rfl, rfl, s, r, u, v, w, y, hf, hs1, hs, hr, hq, rfl, hs2, rfl⟩ := hI
    obtain ⟨_, e, hV0, hO0, e2, hZ⟩ := x_f1 h0
    cases e
    have hV := hV0.fs hf (by decide)
    obtain ⟨k, hk⟩ := pop_pos h8 hs2 (by omega)
    have hfr : kO a (n_pop s - 1) &&& s < 256 := Nat.lt_of_le_of_lt Nat.and_le_left (kO_lt a _)
    by_cases hlt : r < ab_hc a
    · have fin : ∀ y : Nat, y = fb_sm (kFs a s) (r + 1) → ∃ μ', ra_lx μ' (2 ^ ab_hc a - s, 0, ab_hc a - r) ∧ I_Kn_countAhead a Z [.ref 54, .int (nI (2 ^ ab_hc a - 1))] σ0 37 μ' [.ref 54, .int (nI (2 ^ ab_hc a - 1)), .int (nI s), u, .int (nI (kO a (n_pop s - 1) &&& s)), .int (nI y), .int (nI (r + 1))] [] σ := by
        intro y hy
        rw [hy]
        exact ⟨(2 ^ ab_hc a - s, 0, ab_hc a - (r + 1)), lx3 (by omega), rfl, rfl, s, r + 1, u, v, w, v, hf, hs1, hs, by omega, hq, rfl, hs2, rfl⟩
      simp (disch := omega) only [b_Kn_countAhead_101, b_Kn_countAhead_78, b_Kn_countAhead_77, b_Kn_countAhead_61, b_Kn_countAhead_49, b_Kn_countAhead_37, b_Kn_countAhead_14, b_Kn_countAhead_9, b_Kn_countAhead_0, e_al0, e_il2, e_il5, e_il6, e_il4, e_il3, e_il1, e_is5i, e_is5r, e_is5n, e_is3i, e_is3r, e_is3n, e_is4i, e_is4r, e_is4n, e_is6i, e_is6r, e_is6n, e_is2i, e_is2r, e_is2n, e_inc2i, e_inc2r, e_inc2n, e_inc6i, e_inc6r, e_inc6n, e_c, e_i2, e_b1, e_b2, e_gi, e_gr, e_ald, e_ast, e_vr, e_cs2, e_cs1, e_c10, e_c1i, e_c1r, e_sh0, e_sh1, e_sh2, e_sh3, e_sh4, e_tls, e_tln, e_tl0, e_tl1, cl_1, cl_54, cl_58, ln_58, cl_59, ln_59, tg_54_0, tg_54_4, tg_54_5, q_J_bitCount, q_R_has, Nat.reduceAdd, true_and, and_true, true_implies, not_true_eq_false, false_implies, not_false_eq_true, imp_self, forall_const, List.append_nil, ra_I, ra_J, ra_pad, true_or, or_true, Nat.reduceEqDiff, ra_bz, eq_self, if_true, if_false, false_and, and_false, Nat.zero_le, List.cons_append, List.nil_append, Nat.reduceLT, Nat.reduceLeDiff, Nat.reduceMul, Nat.reduceSub, n_0, n_1, n_2, n_3, n_4, n_5, n_6, n_7, n_8, n_9, n_10, n_12, n_40, n_48, n_57, n_59, n_72, n_99, n_102, n_103, n_107, n_108, n_192, n_255, n_256, n_999, n_1000, n_104, nI_add, pk_mul, n_cl, n_inT, n_le, n_lt, n_eq, n_m1, n_m1', n_lem1, n_m1le, n_ltm1, n_m1lt, n_lepred, n_shl, fa_or, hV.2.1.1, kn_andnot s (show s < 256 by omega) r (show r < 8 by omega)]
      refine ⟨fun z => by omega, fun _ => ⟨fun z => ?_, fun z => ?_⟩⟩
      · rw [Nat.testBit_and, Bool.and_eq_true] at z
        have hx := xb_lt z.2
        rw [clr_xor s (by omega) r (by omega) z.2, n_cl (by omega), hq _ hx, nI_add]
        refine ⟨vi (by omega) (by decide), fin _ ?_⟩
        rw [fb_sm_succ]
        congr 1
        unfold kFs
        rw [if_pos ⟨z.2, z.1⟩]
      · refine fin _ ?_
        rw [fb_sm_succ]
        congr 1
        unfold kFs
        rw [if_neg (fun y => z ?_)]
        rw [Nat.testBit_and, y.1, show (kO a (n_pop s - 1)).testBit r = true from y.2]
        rfl
    · simp (disch := omega) only [b_Kn_countAhead_101, b_Kn_countAhead_87, b_Kn_countAhead_78, b_Kn_countAhead_77, b_Kn_countAhead_61, b_Kn_countAhead_37, b_Kn_countAhead_14, b_Kn_countAhead_9, b_Kn_countAhead_0, e_al0, e_il2, e_il5, e_il6, e_il4, e_il3, e_il1, e_is5i, e_is5r, e_is5n, e_is3i, e_is3r, e_is3n, e_is4i, e_is4r, e_is4n, e_is6i, e_is6r, e_is6n, e_is2i, e_is2r, e_is2n, e_inc2i, e_inc2r, e_inc2n, e_inc6i, e_inc6r, e_inc6n, e_c, e_i2, e_b1, e_b2, e_gi, e_gr, e_ald, e_ast, e_vr, e_cs2, e_cs1, e_c10, e_c1i, e_c1r, e_sh0, e_sh1, e_sh2, e_sh3, e_sh4, e_tls, e_tln, e_tl0, e_tl1, cl_1, cl_54, cl_58, ln_58, cl_59, ln_59, tg_54_0, tg_54_4, tg_54_5, q_J_bitCount, q_R_has, Nat.reduceAdd, true_and, and_true, true_implies, not_true_eq_false, false_implies, not_false_eq_true, imp_self, forall_const, List.append_nil, ra_I, ra_J, ra_pad, true_or, or_true, Nat.reduceEqDiff, ra_bz, eq_self, if_true, if_false, false_and, and_false, Nat.zero_le, List.cons_append, List.nil_append, Nat.reduceLT, Nat.reduceLeDiff, Nat.reduceMul, Nat.reduceSub, n_0, n_1, n_2, n_3, n_4, n_5, n_6, n_7, n_8, n_9, n_10, n_12, n_40, n_48, n_57, n_59, n_72, n_99, n_102, n_103, n_107, n_108, n_192, n_255, n_256, n_999, n_1000, n_104, nI_add, pk_mul, n_cl, n_inT, n_le, n_lt, n_eq, n_m1, n_m1', n_lem1, n_m1le, n_ltm1, n_m1lt, n_lepred, n_shl, fa_or, hV.2.1.1]
      refine ⟨fun _ => ⟨(2 ^ ab_hc a - (s + 1), 30, 0), lx1 (by omega), rfl, rfl, s + 1, 0, _, _, _, _, hf.sw (Or.inl (by decide)), by omega, by omega, by omega, fun j h1 => ?_, rfl, rfl⟩, fun z => by omega⟩
      rw [sw_at, if_pos rfl]
      split
      · next e => rw [e, kF_step h8 hk, show r = ab_hc a by omega]; unfold kFs; rw [hk]; rfl
      · exact hq j (by omega)
