/-! rings as cycles -/
noncomputable def it (a : Ab) (h : Nat) : Nat → Nat
  | 0 => h
  | k + 1 => ab_ow a (it a h k)
theorem it_lt {a : Ab} {h : Nat} (hh : h < ab_hc a) : ∀ k, it a h k < ab_hc a
  | 0 => hh
  | k + 1 => ab_ow_lt (it_lt hh k)
theorem it_add (a : Ab) (h j : Nat) : ∀ k, it a (it a h j) k = it a h (j + k)
  | 0 => rfl
  | k + 1 => by rw [it, it_add a h j k]; rfl
theorem it_back {a : Ab} {h : Nat} (hh : h < ab_hc a) {i : Nat} (hd : ∀ j k, j < k → k < i → it a h j ≠ it a h k) {j : Nat} (hj : j < i) (e : it a h j = it a h i) : j = 0 := by
  cases j with
  | zero => rfl
  | succ j =>
    cases i with
    | zero => omega
    | succ i =>
      have := ab_ow_inj (it_lt hh j) (it_lt hh i) e
      exact absurd this (hd j i (by omega) (by omega))
theorem rg_main {a : Ab} {h : Nat} (hh : h < ab_hc a) : ∀ (f i b : Nat), i + f = ab_hc a → (∀ r, b.testBit r = true ↔ ∃ j, j < i ∧ it a h j = r) → n_pop b = i → (∀ j k, j < k → k < i → it a h j ≠ it a h k) → ∃ p, 1 ≤ p ∧ it a h p = h ∧ (∀ r, (ab_rg a f b (it a h i)).testBit r = true ↔ ∃ j, j < p ∧ it a h j = r) ∧ n_pop (ab_rg a f b (it a h i)) = p
  | 0, i, b, hi, hb, hp, hd => by
    refine ⟨i, by omega, ?_, hb, hp⟩
    obtain ⟨j, h1, h2⟩ := fb_onto (n := ab_hc a) (f := it a h) (fun j _ => it_lt hh j) (fun j k hjk hk => hd j k hjk (by omega)) (it_lt hh i)
    have := it_back hh hd (by omega) h2
    subst this
    exact h2.symm
  | f + 1, i, b, hi, hb, hp, hd => by
    have h8 := ab_hc_8 a
    rw [ab_rg]
    by_cases q : b.testBit (it a h i) = true
    · rw [if_pos q]
      obtain ⟨j, h1, h2⟩ := (hb _).mp q
      have := it_back hh hd h1 h2
      subst this
      exact ⟨i, by omega, h2.symm, hb, hp⟩
    · rw [if_neg q]
      have hlt := it_lt hh i
      refine rg_main hh f (i + 1) (b ||| 2 ^ it a h i) (by omega) (fun r => ?_) ?_ (fun j k hjk hk e => ?_)
      · rw [n_tb_or, Bool.or_eq_true, hb r, decide_eq_true_eq]
        constructor
        · rintro (⟨j, h1, h2⟩ | h1)
          · exact ⟨j, by omega, h2⟩
          · exact ⟨i, by omega, h1.symm⟩
        · rintro ⟨j, h1, h2⟩
          rcases (show j < i ∨ j = i by omega) with z | rfl
          · exact Or.inl ⟨j, z, h2⟩
          · exact Or.inr h2.symm
      · rw [n_pop_set (by omega) (ts_nt' q), hp]
      · rcases (show k < i ∨ k = i by omega) with z | rfl
        · exact hd j k hjk z e
        · exact q ((hb _).mpr ⟨j, hjk, e⟩)
theorem ring_cyc {a : Ab} {h : Nat} (hh : h < ab_hc a) : 1 ≤ n_pop (ab_ring a h) ∧ it a h (n_pop (ab_ring a h)) = h ∧ ∀ r, (ab_ring a h).testBit r = true ↔ ∃ j, j < n_pop (ab_ring a h) ∧ it a h j = r := by
  obtain ⟨p, h1, h2, h3, h4⟩ := rg_main hh (ab_hc a) 0 0 (by omega) (fun r => by simp) pop_0 (fun j k _ hk => by omega)
  have e : ab_rg a (ab_hc a) 0 (it a h 0) = ab_ring a h := rfl
  rw [e] at h3 h4
  rw [h4]
  exact ⟨h1, h2, h3⟩
theorem it_per {a : Ab} {h p : Nat} (hp : 1 ≤ p) (e : it a h p = h) : ∀ m, ∃ j, j < p ∧ it a h m = it a h j
  | 0 => ⟨0, by omega, rfl⟩
  | m + 1 => by
    obtain ⟨j, h1, h2⟩ := it_per hp e m
    rcases (show j + 1 < p ∨ j + 1 = p by omega) with z | z
    · exact ⟨j + 1, z, by rw [it, h2]; rfl⟩
    · refine ⟨0, by omega, ?_⟩
      show ab_ow a (it a h m) = h
      rw [h2]
      show it a h (j + 1) = h
      rw [z, e]
theorem ring_mem {a : Ab} {h : Nat} (hh : h < ab_hc a) {r : Nat} : (ab_ring a h).testBit r = true ↔ ∃ j, it a h j = r := by
  obtain ⟨h1, h2, h3⟩ := ring_cyc hh
  rw [h3]
  constructor
  · rintro ⟨j, -, q⟩
    exact ⟨j, q⟩
  · rintro ⟨m, q⟩
    obtain ⟨j, k1, k2⟩ := it_per h1 h2 m
    exact ⟨j, k1, k2.symm.trans q⟩
theorem ring_lt {a : Ab} {h r : Nat} (hh : h < ab_hc a) (hr : (ab_ring a h).testBit r = true) : r < ab_hc a := by
  obtain ⟨j, q⟩ := (ring_mem hh).mp hr
  rw [← q]
  exact it_lt hh j
theorem ring_self {a : Ab} {h : Nat} (hh : h < ab_hc a) : (ab_ring a h).testBit h = true := (ring_mem hh).mpr ⟨0, rfl⟩
theorem ring_back {a : Ab} {h r : Nat} (hh : h < ab_hc a) (hr : (ab_ring a h).testBit r = true) : ∃ j, it a r j = h := by
  obtain ⟨h1, h2, h3⟩ := ring_cyc hh
  obtain ⟨j, k1, k2⟩ := (h3 r).mp hr
  refine ⟨n_pop (ab_ring a h) - j, ?_⟩
  rw [← k2, it_add, show j + (n_pop (ab_ring a h) - j) = n_pop (ab_ring a h) by omega, h2]
theorem ring_same {a : Ab} {h r : Nat} (hh : h < ab_hc a) (hr : (ab_ring a h).testBit r = true) : ab_ring a r = ab_ring a h := by
  have hr2 := ring_lt hh hr
  obtain ⟨j, q⟩ := (ring_mem hh).mp hr
  obtain ⟨k, q2⟩ := ring_back hh hr
  apply Nat.eq_of_testBit_eq
  intro i
  apply Bool.eq_iff_iff.mpr
  rw [ring_mem hr2, ring_mem hh]
  constructor
  · rintro ⟨m, e⟩
    exact ⟨j + m, by rw [← it_add, q, e]⟩
  · rintro ⟨m, e⟩
    exact ⟨k + m, by rw [← it_add, q2, e]⟩
theorem ring_sym {a : Ab} {h r : Nat} (hh : h < ab_hc a) (hr : (ab_ring a h).testBit r = true) : (ab_ring a r).testBit h = true := by
  rw [ring_same hh hr]
  exact ring_self hh
theorem ring_ow {a : Ab} {h r : Nat} (hh : h < ab_hc a) (hr : (ab_ring a h).testBit r = true) : (ab_ring a h).testBit (ab_ow a r) = true := by
  obtain ⟨j, q⟩ := (ring_mem hh).mp hr
  exact (ring_mem hh).mpr ⟨j + 1, by rw [it, q]⟩
theorem ring_on {a : Ab} {h r : Nat} (hh : h < ab_hc a) (hr : (ab_ring a h).testBit r = true) : (ab_ring a h).testBit (ab_on a r) = true := by
  have hr2 := ring_lt hh hr
  obtain ⟨k1, k2⟩ := ab_on_spec hr2
  have h1 : (ab_ring a (ab_on a r)).testBit r = true := (ring_mem k1).mpr ⟨1, k2⟩
  have h2 := ring_same k1 h1
  rw [← ring_same hh hr, h2]
  exact ring_self k1
/-! how many rings -/
theorem rg_done_iff {a : Ab} {r : Nat} : ∀ h, (rg_done a h).testBit r = true ↔ ∃ j, j < h ∧ (ab_ring a j).testBit r = true
  | 0 => by
    constructor
    · intro q; rw [rg_done, Nat.zero_testBit] at q; cases q
    · rintro ⟨j, q, _⟩; omega
  | h + 1 => by
    rw [rg_done, Nat.testBit_or, Bool.or_eq_true, rg_done_iff h]
    constructor
    · rintro (⟨j, h1, h2⟩ | h1)
      · exact ⟨j, by omega, h2⟩
      · exact ⟨h, by omega, h1⟩
    · rintro ⟨j, h1, h2⟩
      rcases (show j < h ∨ j = h by omega) with z | rfl
      · exact Or.inl ⟨j, z, h2⟩
      · exact Or.inr h2
theorem low_bit : ∀ n, n < 256 → ∀ h, h < 8 → (nI n &&& -nI n = nI (2 ^ h) ↔ fa_first (fun j => n.testBit j) 8 = h) := by decide +kernel
theorem low_ring {a : Ab} {h : Nat} (hh : h < ab_hc a) : (nI (ab_ring a h) &&& -nI (ab_ring a h) = nI (2 ^ h)) = (¬ (rg_done a h).testBit h = true) := by
  have h8 := ab_hc_8 a
  apply propext
  rw [low_bit _ (ab_ring_lt hh) h (by omega), rg_done_iff]
  constructor
  · rintro e ⟨j, h1, h2⟩
    have h3 := fa_first_no (fun j => (ab_ring a h).testBit j) 8 j (by omega)
    have h4 := ring_sym (by omega) h2
    rw [h3] at h4
    cases h4
  · intro q
    refine fa_first_eq (fun j hj => ?_) (by omega) (ring_self hh)
    cases e : (ab_ring a h).testBit j with
    | false => rfl
    | true => exact absurd ⟨j, hj, ring_sym hh e⟩ q
def sp_V_countRings (a : Ab) : ra_Sp := ra_f0 1 (fun σ Z => rc_V a σ ∧ Z (some (.int (nI (rg_cnt a (ab_hc a))))) σ)
theorem q_V_countRings {a : Ab} {oo : Nat} {σ : ra_St} {Z : ra_R} : sp_V_countRings a [.ref oo] σ Z = (oo = 1 ∧ (rc_V a σ ∧ Z (some (.int (nI (rg_cnt a (ab_hc a))))) σ)) := rfl
def I_V_countRings (a : Ab) (Z : ra_R) (as : List Value) (σ0 : ra_St) (t : Nat) (μ : ra_M) : ra_K := fun L S σ => S = [] ∧ σ = σ0 ∧ as = [.ref 1] ∧ ∃ h : Nat, h ≤ ab_hc a ∧ μ = (ab_hc a - h, 0, 0) ∧ L = [.ref 1, .int (nI (rg_cnt a h)), .int (nI h)]
theorem k_V_countRings {l : Launch} {X : ra_X} {a : Ab} : ra_MOK l X mi_V_countRings (sp_V_countRings a) := by
  have h8 := ab_hc_8 a
  refine g_V_countRings (sp_V_countRings a) (I_V_countRings a) ?_ ?_
  · intro as σ Z _ _ h
    obtain ⟨rfl, hV, hZ⟩ := x_f0 h
    simp (disch := omega) only [b_V_countRings_41, b_V_countRings_35, b_V_countRings_32, b_V_countRings_12, b_V_countRings_4, b_V_countRings_0, e_il1, e_al0, e_il2, e_is1i, e_is1r, e_is1n, e_is2i, e_is2r, e_is2n, e_inc2i, e_inc2r, e_inc2n, e_inc1i, e_inc1r, e_inc1n, e_c, e_i2, e_i1, e_b2, e_gi, e_gr, e_ald, e_ir, cl_1, cl_11, ln_11, tg_1_7, Nat.reduceAdd, true_and, and_true, true_implies, not_true_eq_false, false_implies, not_false_eq_true, imp_self, forall_const, List.append_nil, ra_I, ra_J, ra_pad, true_or, or_true, Nat.reduceEqDiff, ra_bz, eq_self, if_true, if_false, false_and, and_false, Nat.zero_le, List.cons_append, List.nil_append, Nat.reduceLT, Nat.reduceLeDiff, Nat.reduceMul, Nat.reduceSub, n_0, n_1, n_2, n_3, n_4, n_5, n_6, n_7, n_8, n_9, n_10, n_12, n_40, n_48, n_57, n_59, n_72, n_99, n_102, n_103, n_107, n_108, n_192, n_255, n_256, n_999, n_1000, n_104, nI_add, pk_mul, n_cl, n_inT, n_le, n_lt, n_eq, n_m1, n_m1', n_lem1, n_m1le, n_ltm1, n_m1lt, n_lepred, n_shl, fa_or]
    exact ⟨_, rfl, rfl, rfl, 0, by omega, rfl, rfl⟩
  · intro as σ0 Z h0 μ L S σ hI
    obtain ⟨rfl, rfl, rfl, h, hh, rfl, rfl⟩ := hI
    obtain ⟨-, hV, hZ⟩ := x_f0 h0
    have b2 := rg_cnt_le a h
    by_cases hlt : h < ab_hc a
    · have er := (hV.2.2.2.2 h hlt).2.2
      simp (disch := omega) only [b_V_countRings_35, b_V_countRings_32, b_V_countRings_12, b_V_countRings_4, b_V_countRings_0, e_il1, e_al0, e_il2, e_is1i, e_is1r, e_is1n, e_is2i, e_is2r, e_is2n, e_inc2i, e_inc2r, e_inc2n, e_inc1i, e_inc1r, e_inc1n, e_c, e_i2, e_i1, e_b2, e_gi, e_gr, e_ald, e_ir, cl_1, cl_11, ln_11, tg_1_7, Nat.reduceAdd, true_and, and_true, true_implies, not_true_eq_false, false_implies, not_false_eq_true, imp_self, forall_const, List.append_nil, ra_I, ra_J, ra_pad, true_or, or_true, Nat.reduceEqDiff, ra_bz, eq_self, if_true, if_false, false_and, and_false, Nat.zero_le, List.cons_append, List.nil_append, Nat.reduceLT, Nat.reduceLeDiff, Nat.reduceMul, Nat.reduceSub, n_0, n_1, n_2, n_3, n_4, n_5, n_6, n_7, n_8, n_9, n_10, n_12, n_40, n_48, n_57, n_59, n_72, n_99, n_102, n_103, n_107, n_108, n_192, n_255, n_256, n_999, n_1000, n_104, nI_add, pk_mul, n_cl, n_inT, n_le, n_lt, n_eq, n_m1, n_m1', n_lem1, n_m1le, n_ltm1, n_m1lt, n_lepred, n_shl, fa_or, hV.2.1.1, er, low_ring hlt]
      refine ⟨fun q => by omega, fun _ => ⟨fun q => ⟨(ab_hc a - (h + 1), 0, 0), lx1 (by omega), rfl, rfl, rfl, h + 1, by omega, rfl, ?_⟩, fun q => ⟨(ab_hc a - (h + 1), 0, 0), lx1 (by omega), rfl, rfl, rfl, h + 1, by omega, rfl, ?_⟩⟩⟩
      · rw [rg_cnt, if_neg q]
      · rw [rg_cnt, if_pos (Classical.not_not.mp q)]
        rfl
    · simp (disch := omega) only [b_V_countRings_41, b_V_countRings_35, b_V_countRings_32, b_V_countRings_4, b_V_countRings_0, e_il1, e_al0, e_il2, e_is1i, e_is1r, e_is1n, e_is2i, e_is2r, e_is2n, e_inc2i, e_inc2r, e_inc2n, e_inc1i, e_inc1r, e_inc1n, e_c, e_i2, e_i1, e_b2, e_gi, e_gr, e_ald, e_ir, cl_1, cl_11, ln_11, tg_1_7, Nat.reduceAdd, true_and, and_true, true_implies, not_true_eq_false, false_implies, not_false_eq_true, imp_self, forall_const, List.append_nil, ra_I, ra_J, ra_pad, true_or, or_true, Nat.reduceEqDiff, ra_bz, eq_self, if_true, if_false, false_and, and_false, Nat.zero_le, List.cons_append, List.nil_append, Nat.reduceLT, Nat.reduceLeDiff, Nat.reduceMul, Nat.reduceSub, n_0, n_1, n_2, n_3, n_4, n_5, n_6, n_7, n_8, n_9, n_10, n_12, n_40, n_48, n_57, n_59, n_72, n_99, n_102, n_103, n_107, n_108, n_192, n_255, n_256, n_999, n_1000, n_104, nI_add, pk_mul, n_cl, n_inT, n_le, n_lt, n_eq, n_m1, n_m1', n_lem1, n_m1le, n_ltm1, n_m1lt, n_lepred, n_shl, fa_or, hV.2.1.1]
      refine ⟨fun _ => ?_, fun q => by omega⟩
      rw [show h = ab_hc a by omega]
      exact hZ
def sp_R_count (a : Ab) (b : Bb) (n : Nat) : ra_Sp := ra_f1 0 (fun x σ Z => rc_I a b n σ ∧ Z (some (.int (an_count a b x))) σ)
theorem q_R_count {a : Ab} {b : Bb} {n : Nat} {oo : Nat} {x : Int32} {σ : ra_St} {Z : ra_R} : sp_R_count a b n [.ref oo, .int x] σ Z = (oo = 0 ∧ (rc_I a b n σ ∧ Z (some (.int (an_count a b x))) σ)) := rfl
theorem k_R_count {l : Launch} {X : ra_X} {a : Ab} {b : Bb} {n : Nat} : ra_MOK l X mi_R_count (sp_R_count a b n) := by
  refine g_R_count (k_V_countRings (a := a)) (sp_R_count a b n) ?_
  intro as σ Z _ _ h
  obtain ⟨x, rfl, hI, hZ⟩ := x_f1 h
  unfold an_count at hZ
  obtain ⟨h1, h2, h3, h4, h5, -⟩ := hI
  obtain ⟨t1, t2, t3, t4, -⟩ := h1.1
  simp (disch := omega) only [b_R_count_127, b_R_count_122, b_R_count_114, b_R_count_106, b_R_count_98, b_R_count_90, b_R_count_82, b_R_count_71, b_R_count_60, b_R_count_52, b_R_count_0, e_al0, e_il1, e_c, e_gi, e_gr, e_ir, e_sw, e_go0, e_go1, List.map_cons, List.map_nil, e_cv1, e_hd, e_c10, e_c1i, e_c1r, e_sh0, e_sh1, e_sh2, e_sh3, e_sh4, e_tls, e_tln, e_tl0, e_tl1, cl_0, cl_1, cl_2, cl_4, cl_12, cl_54, tg_0_0, tg_0_1, tg_0_5, tg_1_0, tg_1_1, q_V_countRings, Nat.reduceAdd, true_and, and_true, true_implies, not_true_eq_false, false_implies, not_false_eq_true, imp_self, forall_const, List.append_nil, ra_I, ra_J, ra_pad, true_or, or_true, Nat.reduceEqDiff, ra_bz, eq_self, if_true, if_false, false_and, and_false, Nat.zero_le, List.cons_append, List.nil_append, Nat.reduceLT, Nat.reduceLeDiff, Nat.reduceMul, Nat.reduceSub, n_0, n_1, n_2, n_3, n_4, n_5, n_6, n_7, n_8, n_9, n_10, n_12, n_40, n_48, n_57, n_59, n_72, n_99, n_102, n_103, n_107, n_108, n_192, n_255, n_256, n_999, n_1000, n_104, nI_add, pk_mul, n_cl, n_inT, n_le, n_lt, n_eq, n_m1, n_m1', n_lem1, n_m1le, n_ltm1, n_m1lt, n_lepred, n_shl, fa_or]
  refine ⟨fun q => ?_, fun q0 => ⟨fun q => ?_, fun q1 => ⟨fun q => ?_, fun q2 => ⟨fun q => ?_, fun q3 => ⟨fun q => ?_, fun q4 => ⟨fun q => ?_, fun q5 => ⟨fun q => ?_, fun q6 => ⟨fun q => ?_, fun q7 => ⟨fun q => ?_, fun q8 => ?_⟩⟩⟩⟩⟩⟩⟩⟩⟩
  · subst q
    rw [h1.2.1.1]; exact hZ
  · subst q
    rw [t3]; exact hZ
  · subst q
    rw [t4]; exact hZ
  · subst q
    rw [h2.1]; exact hZ
  · subst q
    exact ⟨h1, hZ⟩
  · subst q
    rw [h4.1]; exact hZ
  · subst q
    rw [h2.2.2.1]; exact hZ
  · subst q
    rw [h2.2.2.2]; exact hZ
  · subst q
    rw [h5.2.1]; exact hZ
  · rw [if_neg (show ¬ x = 0 from q0), if_neg (show ¬ x = 1 from q1), if_neg (show ¬ x = 2 from q2), if_neg (show ¬ x = 3 from q3), if_neg (show ¬ x = 4 from q4), if_neg (show ¬ x = 5 from q5), if_neg (show ¬ x = 6 from q6), if_neg (show ¬ x = 7 from q7), if_neg (show ¬ x = 8 from q8)] at hZ
    exact hZ
