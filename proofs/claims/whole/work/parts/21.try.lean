def sp_N_in : ra_Sp := ra_s3 (fun v lo hi σ Z => Z (some (.int (if lo ≤ v ∧ v ≤ hi then 1 else 0))) σ)
theorem k_N_in {l : Launch} {X : ra_X} : ra_MOK l X mi_N_in sp_N_in := by
  refine g_N_in sp_N_in ?_
  intro as σ Z _ _ h
  obtain ⟨v, lo, hi, rfl, h⟩ := x_s3 h
  simp only [b_N_in_15, b_N_in_14, b_N_in_10, b_N_in_5, b_N_in_0, e_il0, e_il2, e_il1, e_c, e_b2, e_zr, Nat.reduceAdd, true_and, and_true, true_implies, not_true_eq_false, false_implies, not_false_eq_true, imp_self, forall_const, List.append_nil, ra_I, ra_J, ra_pad, true_or, or_true, Nat.reduceEqDiff]
  trace_state
  sorry
def I_N_stronger (Z : ra_R) (as : List Value) (σ0 : ra_St) (t : Nat) (μ : ra_M) : ra_K := fun L S σ => ∃ (x : Int32) (k n r : Nat), as = [.ref 82, .int x] ∧ σ = σ0 ∧ r ≤ 12 ∧ σ 82 7 = nI r ∧ k ≤ r ∧ n ≤ k ∧ μ = (r - k, 0, 0) ∧ L = [.ref 82, .int x, .int (nI n), .int (nI k)] ∧ S = [] ∧ (t = 4 → True)
def sp_N_stronger : ra_Sp := ra_f1 82 (fun x σ Z => ∃ r, r ≤ 12 ∧ σ 82 7 = nI r ∧ ∀ n, Z (some (.int n)) σ)
theorem k_N_stronger {l : Launch} {X : ra_X} : ra_MOK l X mi_N_stronger sp_N_stronger := by
  refine g_N_stronger sp_N_stronger I_N_stronger ?_ ?_
  · intro as σ Z _ _ h
    obtain ⟨x, rfl, r, hr, hr2, h⟩ := x_f1 h
    simp only [b_N_stronger_36, b_N_stronger_28, b_N_stronger_27, b_N_stronger_23, b_N_stronger_12, b_N_stronger_4, b_N_stronger_0, e_il2, e_al0, e_il3, e_il1, e_is2i, e_is2r, e_is2n, e_is3i, e_is3r, e_is3n, e_inc3i, e_inc3r, e_inc3n, e_c, e_i2, e_b2, e_gi, e_gr, e_ald, e_ir, cl_82, cl_89, ln_89, tg_82_8, Nat.reduceAdd, true_and, and_true, true_implies, not_true_eq_false, false_implies, not_false_eq_true, imp_self, forall_const, List.append_nil, ra_I, ra_J, ra_pad, true_or, or_true, Nat.reduceEqDiff]
    trace_state
    sorry
  · intro as σ Z h μ L S σ1 hI
    obtain ⟨x, rfl, r, hr, hr2, h⟩ := x_f1 h
    obtain ⟨x', k, n, r', e1, rfl, h1, h2, h3, h4, rfl, rfl, rfl, -⟩ := hI
    simp only [b_N_stronger_36, b_N_stronger_28, b_N_stronger_27, b_N_stronger_23, b_N_stronger_12, b_N_stronger_4, b_N_stronger_0, e_il2, e_al0, e_il3, e_il1, e_is2i, e_is2r, e_is2n, e_is3i, e_is3r, e_is3n, e_inc3i, e_inc3r, e_inc3n, e_c, e_i2, e_b2, e_gi, e_gr, e_ald, e_ir, cl_82, cl_89, ln_89, tg_82_8, Nat.reduceAdd, true_and, and_true, true_implies, not_true_eq_false, false_implies, not_false_eq_true, imp_self, forall_const, List.append_nil, ra_I, ra_J, ra_pad, true_or, or_true, Nat.reduceEqDiff]
    trace_state
    sorry
