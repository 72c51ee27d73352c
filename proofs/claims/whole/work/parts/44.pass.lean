def sp_Co_settle (o : Nat) (a : Ab) : ra_Sp := ra_f2 o (fun r t σ Z => rc_V a σ ∧ rc_W a σ ∧ ∃ h L T P Q K : Nat, h < ab_hc a ∧ r = nI h ∧ L ≤ 1 ∧ t = nI L ∧ σ (o + 3) h = nI T ∧ T ≤ 9 ∧ σ (o + 4) (ab_on a h) = nI P ∧ P ≤ 9 ∧ σ (o + 6) h = nI Q ∧ Q ≤ 100 ∧ σ (o + 7) h = nI K ∧ K ≤ 9 ∧ (¬ L = 0 → a 5 0 ≤ P) ∧ (¬ L = 0 → Z none (ra_sw (ra_sw (ra_sw σ (o + 3) h (nI (T + 1))) (o + 6) h (nI (Q + 1))) (o + 4) (ab_on a h) (nI (P - a 5 0)))) ∧ (L = 0 → a 5 1 = 1 ∧ 0 < K ∧ 0 < T → Z none (ra_sw σ (o + 3) h (nI (T - 1)))) ∧ (L = 0 → ¬ (a 5 1 = 1 ∧ 0 < K ∧ 0 < T) → Z none σ))
theorem q_Co_settle {o : Nat} {a : Ab} {oo : Nat} {r t : Int32} {σ : ra_St} {Z : ra_R} : sp_Co_settle o a [.ref oo, .int r, .int t] σ Z = (oo = o ∧ (rc_V a σ ∧ rc_W a σ ∧ ∃ h L T P Q K : Nat, h < ab_hc a ∧ r = nI h ∧ L ≤ 1 ∧ t = nI L ∧ σ (o + 3) h = nI T ∧ T ≤ 9 ∧ σ (o + 4) (ab_on a h) = nI P ∧ P ≤ 9 ∧ σ (o + 6) h = nI Q ∧ Q ≤ 100 ∧ σ (o + 7) h = nI K ∧ K ≤ 9 ∧ (¬ L = 0 → a 5 0 ≤ P) ∧ (¬ L = 0 → Z none (ra_sw (ra_sw (ra_sw σ (o + 3) h (nI (T + 1))) (o + 6) h (nI (Q + 1))) (o + 4) (ab_on a h) (nI (P - a 5 0)))) ∧ (L = 0 → a 5 1 = 1 ∧ 0 < K ∧ 0 < T → Z none (ra_sw σ (o + 3) h (nI (T - 1)))) ∧ (L = 0 → ¬ (a 5 1 = 1 ∧ 0 < K ∧ 0 < T) → Z none σ))) := rfl
theorem k_Co_settle_15 {l : Launch} {X : ra_X} {a : Ab} (hW : ab_W a) : ra_MOK l X mi_Co_settle (sp_Co_settle 15 a) := by
  have h8 := ab_hc_8 a
  have hpr := hW.2.2.2.2.2.2.2.1
  have hwe := hW.2.2.2.2.2.2.2.2.1
  refine g_Co_settle (sp_Co_settle 15 a) ?_
  intro as σ Z _ _ h0
  obtain ⟨_, _, rfl, hV, hWe, h, L, T, P, Q, K, hh, rfl, hL, rfl, e2, hT, e3, hP, e4, hQ, e5, hK, hpp, z1, z2, z3⟩ := x_f2 h0
  simp only [Nat.reduceAdd] at e2 e3 e4 e5 z1 z2 z3
  have hon := (ab_on_spec hh).1
  have g1 := (hV.2.2.2.2 h hh).2.1
  simp (disch := omega) only [b_Co_settle_90, b_Co_settle_80, b_Co_settle_71, b_Co_settle_62, b_Co_settle_51, b_Co_settle_4, b_Co_settle_0, e_al0, e_il1, e_il2, e_c, e_i2, e_dup2, e_b1, e_b2, e_gi, e_gr, e_ald, e_ast, e_vr, cl_1, cl_10, ln_10, cl_12, cl_15, cl_18, ln_18, cl_19, ln_19, cl_21, ln_21, cl_22, ln_22, tg_1_6, tg_15_0, tg_15_1, tg_15_4, tg_15_5, tg_15_7, tg_15_8, Nat.reduceAdd, true_and, and_true, true_implies, not_true_eq_false, false_implies, not_false_eq_true, imp_self, forall_const, List.append_nil, ra_I, ra_J, ra_pad, true_or, or_true, Nat.reduceEqDiff, ra_bz, eq_self, if_true, if_false, false_and, and_false, Nat.zero_le, List.cons_append, List.nil_append, Nat.reduceLT, Nat.reduceLeDiff, Nat.reduceMul, Nat.reduceSub, n_0, n_1, n_2, n_3, n_4, n_5, n_6, n_7, n_8, n_9, n_10, n_12, n_40, n_48, n_57, n_59, n_72, n_99, n_102, n_103, n_107, n_108, n_192, n_255, n_256, n_999, n_1000, n_104, nI_add, pk_mul, n_cl, n_inT, n_le, n_lt, n_eq, n_m1, n_m1', n_lem1, n_m1le, n_ltm1, n_m1lt, n_lepred, n_shl, fa_or, e2, e3, e4, e5, g1, hWe.2.2.1, hWe.2.2.2, sw_at]
  refine ⟨fun q => ⟨fun q2 => ⟨fun q3 => z3 q (by omega), fun q3 => ⟨fun q4 => z3 q (by omega), fun q4 => ?_⟩⟩, fun q2 => z3 q (by omega)⟩, fun q => ?_⟩
  · rw [n_sub (by omega)]
    exact z2 q (by omega)
  · rw [n_sub (hpp q)]
    exact z1 q
theorem k_Co_settle_29 {l : Launch} {X : ra_X} {a : Ab} (hW : ab_W a) : ra_MOK l X mi_Co_settle (sp_Co_settle 29 a) := by
  have h8 := ab_hc_8 a
  have hpr := hW.2.2.2.2.2.2.2.1
  have hwe := hW.2.2.2.2.2.2.2.2.1
  refine g_Co_settle (sp_Co_settle 29 a) ?_
  intro as σ Z _ _ h0
  obtain ⟨_, _, rfl, hV, hWe, h, L, T, P, Q, K, hh, rfl, hL, rfl, e2, hT, e3, hP, e4, hQ, e5, hK, hpp, z1, z2, z3⟩ := x_f2 h0
  simp only [Nat.reduceAdd] at e2 e3 e4 e5 z1 z2 z3
  have hon := (ab_on_spec hh).1
  have g1 := (hV.2.2.2.2 h hh).2.1
  simp (disch := omega) only [b_Co_settle_90, b_Co_settle_80, b_Co_settle_71, b_Co_settle_62, b_Co_settle_51, b_Co_settle_4, b_Co_settle_0, e_al0, e_il1, e_il2, e_c, e_i2, e_dup2, e_b1, e_b2, e_gi, e_gr, e_ald, e_ast, e_vr, cl_1, cl_10, ln_10, cl_12, cl_29, cl_32, ln_32, cl_33, ln_33, cl_35, ln_35, cl_36, ln_36, tg_1_6, tg_29_0, tg_29_1, tg_29_4, tg_29_5, tg_29_7, tg_29_8, Nat.reduceAdd, true_and, and_true, true_implies, not_true_eq_false, false_implies, not_false_eq_true, imp_self, forall_const, List.append_nil, ra_I, ra_J, ra_pad, true_or, or_true, Nat.reduceEqDiff, ra_bz, eq_self, if_true, if_false, false_and, and_false, Nat.zero_le, List.cons_append, List.nil_append, Nat.reduceLT, Nat.reduceLeDiff, Nat.reduceMul, Nat.reduceSub, n_0, n_1, n_2, n_3, n_4, n_5, n_6, n_7, n_8, n_9, n_10, n_12, n_40, n_48, n_57, n_59, n_72, n_99, n_102, n_103, n_107, n_108, n_192, n_255, n_256, n_999, n_1000, n_104, nI_add, pk_mul, n_cl, n_inT, n_le, n_lt, n_eq, n_m1, n_m1', n_lem1, n_m1le, n_ltm1, n_m1lt, n_lepred, n_shl, fa_or, e2, e3, e4, e5, g1, hWe.2.2.1, hWe.2.2.2, sw_at]
  refine ⟨fun q => ⟨fun q2 => ⟨fun q3 => z3 q (by omega), fun q3 => ⟨fun q4 => z3 q (by omega), fun q4 => ?_⟩⟩, fun q2 => z3 q (by omega)⟩, fun q => ?_⟩
  · rw [n_sub (by omega)]
    exact z2 q (by omega)
  · rw [n_sub (hpp q)]
    exact z1 q
/-- a course behind rains -/
def rc_cm (o : Nat) (a : Ab) (B : Nat) (te : Nat → Nat) (m : Sm) (σ : ra_St) : Prop := (∀ h, h < ab_hc a → B.testBit h = true → σ (o + 2) h = nI (te h) ∧ te h ≤ 3 ∧ σ (o + 3) h = nI (m.1 h) ∧ σ (o + 4) h = nI (m.2.1 h) ∧ σ (o + 5) h = nI (m.2.2.1 h) ∧ σ (o + 6) h = nI (m.2.2.2.1 h)) ∧ ∃ L : Nat, L < 256 ∧ σ o 10 = nI L ∧ ∀ h, h < ab_hc a → B.testBit h = true → L.testBit h = m.2.2.2.2 h
def sp_Co_pass (o : Nat) (a : Ab) (B : Nat) (te : Nat → Nat) : ra_Sp := ra_f1 o (fun x σ Z => rc_V a σ ∧ rc_W a σ ∧ rc_cl a B ∧ rc_who o a B σ ∧ ∃ k : Nat, k < 12 ∧ x = nI (a 4 k) ∧ rc_cm o a B te (sm a te k) σ ∧ ∀ σ', rc_cm o a B te (sm a te (k + 1)) σ' → ra_fs [o + 3, o + 4, o + 5, o + 6, o + 7] [(o, 10)] σ σ' → Z none σ')
theorem q_Co_pass {o : Nat} {a : Ab} {B : Nat} {te : Nat → Nat} {oo : Nat} {x : Int32} {σ : ra_St} {Z : ra_R} : sp_Co_pass o a B te [.ref oo, .int x] σ Z = (oo = o ∧ (rc_V a σ ∧ rc_W a σ ∧ rc_cl a B ∧ rc_who o a B σ ∧ ∃ k : Nat, k < 12 ∧ x = nI (a 4 k) ∧ rc_cm o a B te (sm a te k) σ ∧ ∀ σ', rc_cm o a B te (sm a te (k + 1)) σ' → ra_fs [o + 3, o + 4, o + 5, o + 6, o + 7] [(o, 10)] σ σ' → Z none σ')) := rfl
noncomputable def sl (a : Ab) (te : Nat → Nat) (k : Nat) (h : Nat) : Bool := sm_lay a te (a 4 k) (sm a te k) h
def I_Co_pass (o : Nat) (a : Ab) (B : Nat) (te : Nat → Nat) (Z : ra_R) (as : List Value) (σ0 : ra_St) (t : Nat) (μ : ra_M) : ra_K := fun L S σ => S = [] ∧ ∃ (k i L0 : Nat) (u v : Value), as = [.ref o, .int (nI (a 4 k))] ∧ rc_cl a B ∧ (∀ σ', rc_cm o a B te (sm a te (k + 1)) σ' → ra_fs [o + 3, o + 4, o + 5, o + 6, o + 7] [(o, 10)] σ0 σ' → Z none σ') ∧ k < 12 ∧ i ≤ cw B (ab_hc a) ∧ L0 < 256 ∧ rc_cm o a B te (sm a te k) σ0 ∧ (∀ j, j < ab_hc a → B.testBit j = true → L0.testBit j = (sm a te k).2.2.2.2 j) ∧ rc_V a σ ∧ rc_W a σ ∧ rc_who o a B σ ∧ ra_fs [o + 3, o + 4, o + 5, o + 6, o + 7] [(o, 10)] σ0 σ ∧ L = [.ref o, .int (nI (a 4 k)), .int (nI L0), .int (nI i), u, v] ∧
  match t with
  | 12 => μ = (300 - i, 0, 0) ∧ σ o 10 = nI 0 ∧ σ (o + 3) = σ0 (o + 3) ∧ σ (o + 4) = σ0 (o + 4) ∧ σ (o + 6) = σ0 (o + 6) ∧ ∀ j, j < ab_hc a → B.testBit j = true → (cw B j < i → σ (o + 7) j = nI (a 4 k - (sm a te k).1 j) ∧ σ (o + 5) j = nI ((sm a te (k + 1)).2.2.1 j)) ∧ (i ≤ cw B j → σ (o + 5) j = nI ((sm a te k).2.2.1 j))
  | 73 => μ = (200 - i, 0, 0) ∧ σ (o + 3) = σ0 (o + 3) ∧ σ (o + 4) = σ0 (o + 4) ∧ σ (o + 6) = σ0 (o + 6) ∧ (∀ j, j < ab_hc a → B.testBit j = true → σ (o + 7) j = nI (a 4 k - (sm a te k).1 j) ∧ σ (o + 5) j = nI ((sm a te (k + 1)).2.2.1 j)) ∧ ∃ M : Nat, M < 256 ∧ σ o 10 = nI M ∧ ∀ j, j < ab_hc a → B.testBit j = true → M.testBit j = (decide (cw B j < i) && sl a te k j)
  | _ => μ = (100 - i, 0, 0) ∧ (∀ j, j < ab_hc a → B.testBit j = true → σ (o + 7) j = nI (a 4 k - (sm a te k).1 j) ∧ σ (o + 5) j = nI ((sm a te (k + 1)).2.2.1 j) ∧ σ (o + 3) j = nI (if cw B j < i then (sm a te (k + 1)).1 j else (sm a te k).1 j) ∧ σ (o + 6) j = nI (if cw B j < i then (sm a te (k + 1)).2.2.2.1 j else (sm a te k).2.2.2.1 j) ∧ σ (o + 4) (ab_on a j) = nI (if cw B j < i then (sm a te (k + 1)).2.1 (ab_on a j) else (sm a te k).2.1 (ab_on a j))) ∧ ∃ M : Nat, M < 256 ∧ σ o 10 = nI M ∧ ∀ j, j < ab_hc a → B.testBit j = true → M.testBit j = sl a te k j
theorem sw_same {σ : ra_St} {c i : Nat} {v : Int32} (h : σ c i = v) : ra_sw σ c i v = σ := by
  funext d j
  rw [sw_at]
  split
  · next e =>
    subst e
    split
    · next e2 => rw [e2, h]
    · rfl
  · rfl
theorem sm_s {a : Ab} {te : Nat → Nat} {k j : Nat} : (sm a te (k + 1)).1 j = (if sl a te k j = true then (sm a te k).1 j + 1 else if a 5 1 = 1 ∧ 0 < a 4 k - (sm a te k).1 j ∧ 0 < (sm a te k).1 j then (sm a te k).1 j - 1 else (sm a te k).1 j) ∧ (sm a te (k + 1)).2.1 j = (if sl a te k (ab_ow a j) = true then (sm a te k).2.1 j - a 5 0 else (sm a te k).2.1 j) ∧ (sm a te (k + 1)).2.2.2.1 j = (sm a te k).2.2.2.1 j + (if sl a te k j = true then 1 else 0) := ⟨rfl, rfl, rfl⟩
theorem sm_leak {a : Ab} {te : Nat → Nat} {s : Nat} {m : Sm} {r : Nat} (h : sm_lay a te s m r = true) : 0 < s - m.1 r := by
  unfold sm_lay at h
  rw [Bool.and_eq_true, Bool.and_eq_true] at h
  have h2 := h.2.2
  split at h2
  · simpa using h2
  · split at h2
    · rw [Bool.and_eq_true] at h2
      simpa using h2.1
    · rw [Bool.and_eq_true] at h2
      have := h2.2
      simp at this
      omega
theorem n_max0 {s t : Nat} (hs : s < 100) (ht : t < 100) : (if nI 0 < nI s - nI t then nI s - nI t else nI 0) = nI (s - t) := by
  by_cases h : t < s
  · rw [n_sub (by omega), if_pos]
    rw [n_lt (by omega) (by omega)]
    omega
  · rw [if_neg]
    · rw [show s - t = 0 by omega]
    · rw [fa_lt, pk_sub_toInt (by omega) (by omega), nI_toInt (by omega)]
      omega
theorem k_Co_pass_15 {l : Launch} {X : ra_X} {a : Ab} {B : Nat} {te : Nat → Nat} (hW : ab_W a) : ra_MOK l X mi_Co_pass (sp_Co_pass 15 a B te) := by
  have h8 := ab_hc_8 a
  have hc := cw_le B (ab_hc a)
  refine g_Co_pass (c1 := fun as σ Z => ∃ k : Nat, True ∧ sp_Co_isLaidOn 15 a B te (a 4 k) (sm a te k) as σ Z) k_R_has (ra_MOK_ex (fun k _ => k_Co_isLaidOn_15 hW)) (k_Co_settle_15 hW) (sp_Co_pass 15 a B te) (I_Co_pass 15 a B te) ?_ ?_ ?_ ?_
  · intro as σ Z _ _ h
    obtain ⟨_, rfl, hV, hWe, hcl, hw, k, hk, rfl, hcm, hZ⟩ := x_f1 h
    obtain ⟨hm, L0, hL0, e10, hL⟩ := hcm
    have hf : ra_fs [18, 19, 20, 21, 22] [(15, 10)] σ (ra_sw σ 15 10 (nI 0)) := ra_fs.rf.sw (Or.inr (by decide))
    simp (disch := omega) only [b_Co_pass_184, b_Co_pass_155, b_Co_pass_147, b_Co_pass_145, b_Co_pass_139, b_Co_pass_126, b_Co_pass_115, b_Co_pass_81, b_Co_pass_73, b_Co_pass_71, b_Co_pass_20, b_Co_pass_12, b_Co_pass_0, e_al0, e_il3, e_il4, e_il5, e_il2, e_il1, e_is3i, e_is3r, e_is3n, e_is4i, e_is4r, e_is4n, e_is5i, e_is5r, e_is5n, e_is2i, e_is2r, e_is2n, e_inc3i, e_inc3r, e_inc3n, e_c, e_i2, e_dup2, e_b1, e_b2, e_gi, e_gr, e_pi, e_ald, e_ast, e_max, e_vr, e_dupi, e_dupr, e_cs2, e_cv3, e_hd, e_c10, e_c1i, e_c1r, e_sh0, e_sh1, e_sh2, e_sh3, e_sh4, e_tls, e_tln, e_tl0, e_tl1, cl_1, cl_10, ln_10, cl_15, cl_16, ln_16, cl_18, ln_18, cl_20, ln_20, cl_22, ln_22, tg_1_6, tg_15_0, tg_15_2, tg_15_4, tg_15_6, tg_15_8, q_R_has, q_Co_isLaidOn, q_Co_settle, Nat.reduceAdd, true_and, and_true, true_implies, not_true_eq_false, false_implies, not_false_eq_true, imp_self, forall_const, List.append_nil, ra_I, ra_J, ra_pad, true_or, or_true, Nat.reduceEqDiff, ra_bz, eq_self, if_true, if_false, false_and, and_false, Nat.zero_le, List.cons_append, List.nil_append, Nat.reduceLT, Nat.reduceLeDiff, Nat.reduceMul, Nat.reduceSub, n_0, n_1, n_2, n_3, n_4, n_5, n_6, n_7, n_8, n_9, n_10, n_12, n_40, n_48, n_57, n_59, n_72, n_99, n_102, n_103, n_107, n_108, n_192, n_255, n_256, n_999, n_1000, n_104, nI_add, pk_mul, n_cl, n_inT, n_le, n_lt, n_eq, n_m1, n_m1', n_lem1, n_m1le, n_ltm1, n_m1lt, n_lepred, n_shl, fa_or, e10]
    refine ⟨_, rfl, k, 0, L0, _, _, rfl, hcl, hZ, hk, by omega, hL0, ⟨hm, L0, hL0, e10, hL⟩, hL, hV.fs hf (by decide), hWe.fs hf (by decide), hw.fs hf (by decide), hf, rfl, rfl, by simp [sw_at], rfl, rfl, rfl, fun j hj hb => ⟨fun q => by omega, fun _ => ?_⟩⟩
    simpa [sw_at] using (hm j hj hb).2.2.2.2.1
  · intro as σ0 Z h0 μ L S σ hI
    obtain ⟨rfl, k, i, L0, u, v, rfl, hcl, hZ, hk, hi, hL0, hcm, hL, hV, hWe, hw, hf, rfl, rfl, e10, c3, c4, c6, hq⟩ := hI
    simp only [Nat.reduceAdd] at c3 c4 c6 hq
    have h4 := hW.2.2.2.2.2.1 k
    by_cases hlt : i < cw B (ab_hc a)
    · obtain ⟨j, hj, hb, hji, hwj⟩ := hw.at hlt
      have hwj : σ 16 i = nI j := hwj
      obtain ⟨b1, b2, b3, b4⟩ := sm_bd hW te k j hj
      have e3 : σ 18 j = nI ((sm a te k).1 j) := by rw [c3]; exact (hcm.1 j hj hb).2.2.1
      have e5 : σ 20 j = nI ((sm a te k).2.2.1 j) := (hq j hj hb).2 (by omega)
      have eh : (sm a te (k + 1)).2.2.1 j = (sm a te k).2.2.1 j + (a 4 k - (sm a te k).1 j) := rfl
      simp (disch := omega) only [b_Co_pass_184, b_Co_pass_155, b_Co_pass_147, b_Co_pass_145, b_Co_pass_139, b_Co_pass_126, b_Co_pass_115, b_Co_pass_81, b_Co_pass_73, b_Co_pass_20, b_Co_pass_12, b_Co_pass_0, e_al0, e_il3, e_il4, e_il5, e_il2, e_il1, e_is3i, e_is3r, e_is3n, e_is4i, e_is4r, e_is4n, e_is5i, e_is5r, e_is5n, e_is2i, e_is2r, e_is2n, e_inc3i, e_inc3r, e_inc3n, e_c, e_i2, e_dup2, e_b1, e_b2, e_gi, e_gr, e_pi, e_ald, e_ast, e_max, e_vr, e_dupi, e_dupr, e_cs2, e_cv3, e_hd, e_c10, e_c1i, e_c1r, e_sh0, e_sh1, e_sh2, e_sh3, e_sh4, e_tls, e_tln, e_tl0, e_tl1, cl_1, cl_10, ln_10, cl_15, cl_16, ln_16, cl_18, ln_18, cl_20, ln_20, cl_22, ln_22, tg_1_6, tg_15_0, tg_15_2, tg_15_4, tg_15_6, tg_15_8, q_R_has, q_Co_isLaidOn, q_Co_settle, Nat.reduceAdd, true_and, and_true, true_implies, not_true_eq_false, false_implies, not_false_eq_true, imp_self, forall_const, List.append_nil, ra_I, ra_J, ra_pad, true_or, or_true, Nat.reduceEqDiff, ra_bz, eq_self, if_true, if_false, false_and, and_false, Nat.zero_le, List.cons_append, List.nil_append, Nat.reduceLT, Nat.reduceLeDiff, Nat.reduceMul, Nat.reduceSub, n_0, n_1, n_2, n_3, n_4, n_5, n_6, n_7, n_8, n_9, n_10, n_12, n_40, n_48, n_57, n_59, n_72, n_99, n_102, n_103, n_107, n_108, n_192, n_255, n_256, n_999, n_1000, n_104, nI_add, pk_mul, n_cl, n_inT, n_le, n_lt, n_eq, n_m1, n_m1', n_lem1, n_m1le, n_ltm1, n_m1lt, n_lepred, n_shl, fa_or, hw.1, hwj, e3, e5, n_max0, sw_at]
      have hf1 : ra_fs [18, 19, 20, 21, 22] [(15, 10)] σ (ra_sw (ra_sw σ 22 j (nI (a 4 k - (sm a te k).1 j))) 20 j (nI ((sm a te k).2.2.1 j + (a 4 k - (sm a te k).1 j)))) := (ra_fs.rf.sw (Or.inl (by decide))).sw (Or.inl (by decide))
      refine ⟨fun q => by omega, fun _ => ⟨(300 - (i + 1), 0, 0), lx1 (by omega), rfl, k, i + 1, L0, _, v, rfl, hcl, hZ, hk, by omega, hL0, hcm, hL, hV.fs hf1 (by decide), hWe.fs hf1 (by decide), hw.fs hf1 (by decide), hf.tr hf1 (by decide) (by decide), rfl, rfl, by simpa [sw_at] using e10, ?_, ?_, ?_, fun p hp hpb => ?_⟩⟩
      · rw [← c3]; rfl
      · rw [← c4]; rfl
      · rw [← c6]; rfl
      · simp only [Nat.reduceAdd]
        by_cases e : p = j
        · subst e
          refine ⟨fun _ => ?_, fun z => by omega⟩
          rw [eh]
          simp [sw_at]
        · have e2 : ¬ cw B p = i := fun z => e (fb_ct_inj' hpb hb (z.trans hji.symm))
          have h9 := hq p hp hpb
          refine ⟨fun z => ?_, fun z => ?_⟩
          · simpa [sw_at, e] using h9.1 (by omega)
          · simpa [sw_at, e] using h9.2 (by omega)
    · simp (disch := omega) only [b_Co_pass_184, b_Co_pass_155, b_Co_pass_147, b_Co_pass_145, b_Co_pass_139, b_Co_pass_126, b_Co_pass_115, b_Co_pass_81, b_Co_pass_73, b_Co_pass_71, b_Co_pass_12, b_Co_pass_0, e_al0, e_il3, e_il4, e_il5, e_il2, e_il1, e_is3i, e_is3r, e_is3n, e_is4i, e_is4r, e_is4n, e_is5i, e_is5r, e_is5n, e_is2i, e_is2r, e_is2n, e_inc3i, e_inc3r, e_inc3n, e_c, e_i2, e_dup2, e_b1, e_b2, e_gi, e_gr, e_pi, e_ald, e_ast, e_max, e_vr, e_dupi, e_dupr, e_cs2, e_cv3, e_hd, e_c10, e_c1i, e_c1r, e_sh0, e_sh1, e_sh2, e_sh3, e_sh4, e_tls, e_tln, e_tl0, e_tl1, cl_1, cl_10, ln_10, cl_15, cl_16, ln_16, cl_18, ln_18, cl_20, ln_20, cl_22, ln_22, tg_1_6, tg_15_0, tg_15_2, tg_15_4, tg_15_6, tg_15_8, q_R_has, q_Co_isLaidOn, q_Co_settle, Nat.reduceAdd, true_and, and_true, true_implies, not_true_eq_false, false_implies, not_false_eq_true, imp_self, forall_const, List.append_nil, ra_I, ra_J, ra_pad, true_or, or_true, Nat.reduceEqDiff, ra_bz, eq_self, if_true, if_false, false_and, and_false, Nat.zero_le, List.cons_append, List.nil_append, Nat.reduceLT, Nat.reduceLeDiff, Nat.reduceMul, Nat.reduceSub, n_0, n_1, n_2, n_3, n_4, n_5, n_6, n_7, n_8, n_9, n_10, n_12, n_40, n_48, n_57, n_59, n_72, n_99, n_102, n_103, n_107, n_108, n_192, n_255, n_256, n_999, n_1000, n_104, nI_add, pk_mul, n_cl, n_inT, n_le, n_lt, n_eq, n_m1, n_m1', n_lem1, n_m1le, n_ltm1, n_m1lt, n_lepred, n_shl, fa_or, hw.1]
      refine ⟨fun _ => ⟨(200 - 0, 0, 0), lx1 (by omega), rfl, k, 0, L0, u, v, rfl, hcl, hZ, hk, by omega, hL0, hcm, hL, hV, hWe, hw, hf, rfl, rfl, c3, c4, c6, fun p hp hpb => (hq p hp hpb).1 ?_, 0, by omega, e10, fun p hp hpb => ?_⟩, fun q => by omega⟩
      · have := fb_ct_lt' (p := fun i => B.testBit i) hp hpb
        show fb_ct _ p < i
        unfold cw at hlt
        omega
      · simp
  · intro as σ0 Z h0 μ L S σ hI
    obtain ⟨rfl, k, i, L0, u, v, rfl, hcl, hZ, hk, hi, hL0, hcm, hL, hV, hWe, hw, hf, rfl, rfl, c3, c4, c6, hq, M, hM, e10, hMb⟩ := hI
    simp only [Nat.reduceAdd] at c3 c4 c6 hq
    have h4 := hW.2.2.2.2.2.1 k
    have hcm1 := hcm.1
    simp only [Nat.reduceAdd] at hcm1
    by_cases hlt : i < cw B (ab_hc a)
    · obtain ⟨j, hj, hb, hji, hwj⟩ := hw.at hlt
      have hwj : σ 16 i = nI j := hwj
      obtain ⟨b1, b2, b3, b4⟩ := sm_bd hW te k j hj
      have hon := (ab_on_spec hj).1
      have hob := (hcl j hj hb).1
      have g1 := (hV.2.2.2.2 j hj).2.1
      have e7 := (hq j hj hb).1
      have e2' : ∀ c, σ 17 c = σ0 17 c := fun c => hf 17 c (by decide) (by simp)
      have hcr : rc_cr 15 a B te (a 4 k) (sm a te k) σ := by
        intro p hp hpb
        obtain ⟨d1, d2, d3, d4, d5, d6⟩ := hcm1 p hp hpb
        obtain ⟨x1, x2, -, -⟩ := sm_bd hW te k p hp
        simp only [Nat.reduceAdd]
        rw [e2', c3, c4]
        exact ⟨d1, d2, d3, d4, (hq p hp hpb).1, x1, x2⟩
      have hth := hL _ hon hob
      have step : ∀ (M' : Nat) (w : Int32) (σ' : ra_St), M' < 256 → σ' 15 10 = nI M' → (∀ c, c ≠ 15 → σ' c = σ c) → (∀ x, x ≠ 10 → σ' 15 x = σ 15 x) → (∀ p, p < ab_hc a → B.testBit p = true → M'.testBit p = (decide (cw B p < i + 1) && sl a te k p)) → ∃ μ', ra_lx μ' (200 - i, 0, 0) ∧ I_Co_pass 15 a B te Z [.ref 15, .int (nI (a 4 k))] σ0 73 μ' [.ref 15, .int (nI (a 4 k)), .int (nI L0), .int (nI (i + 1)), .int (nI j), .int w] [] σ' := by
        intro M' w σ' y1 y2 y3 y4 y5
        have hf1 : ra_fs [18, 19, 20, 21, 22] [(15, 10)] σ σ' := by
          intro c x hc1 hx1
          by_cases e : c = 15
          · subst e
            exact y4 x (fun z => hx1 (by rw [z]; decide))
          · rw [y3 c e]
        refine ⟨(200 - (i + 1), 0, 0), lx1 (by omega), rfl, k, i + 1, L0, _, _, rfl, hcl, hZ, hk, by omega, hL0, hcm, hL, hV.fs hf1 (by decide), hWe.fs hf1 (by decide), hw.fs hf1 (by decide), hf.tr hf1 (by decide) (by decide), rfl, rfl, ?_, ?_, ?_, ?_, M', y1, y2, y5⟩
        · simp only [Nat.reduceAdd]; rw [y3 _ (by decide)]; exact c3
        · simp only [Nat.reduceAdd]; rw [y3 _ (by decide)]; exact c4
        · simp only [Nat.reduceAdd]; rw [y3 _ (by decide)]; exact c6
        · simp only [Nat.reduceAdd]; rw [y3 _ (by decide), y3 _ (by decide)]; exact hq
      have stay : sl a te k j = false → ∀ w : Int32, ∃ μ', ra_lx μ' (200 - i, 0, 0) ∧ I_Co_pass 15 a B te Z [.ref 15, .int (nI (a 4 k))] σ0 73 μ' [.ref 15, .int (nI (a 4 k)), .int (nI L0), .int (nI (i + 1)), .int (nI j), .int w] [] σ := by
        intro hs w
        refine step M w σ hM e10 (fun _ _ => rfl) (fun _ _ => rfl) (fun p hp hpb => ?_)
        rw [hMb p hp hpb]
        by_cases e : p = j
        · subst e; rw [hs]; simp
        · have e2 : ¬ cw B p = i := fun z => e (fb_ct_inj' hpb hb (z.trans hji.symm))
          congr 1
          simp only [decide_eq_decide]
          omega
      have more : sl a te k j = true → ∀ w : Int32, ∃ μ', ra_lx μ' (200 - i, 0, 0) ∧ I_Co_pass 15 a B te Z [.ref 15, .int (nI (a 4 k))] σ0 73 μ' [.ref 15, .int (nI (a 4 k)), .int (nI L0), .int (nI (i + 1)), .int (nI j), .int w] [] (ra_sw σ 15 10 (nI (M ||| 2 ^ j))) := by
        intro hs w
        refine step (M ||| 2 ^ j) w _ (Nat.or_lt_two_pow (n := 8) hM (Nat.pow_lt_pow_right (by decide) (by omega))) (by simp [sw_at]) (fun c hc => ra_su_ne _ _ hc) (fun x hx => by simp [sw_at, hx]) (fun p hp hpb => ?_)
        rw [n_tb_or, hMb p hp hpb]
        by_cases e : p = j
        · subst e; rw [hs]; simp; omega
        · have e2 : ¬ cw B p = i := fun z => e (fb_ct_inj' hpb hb (z.trans hji.symm))
          rw [decide_eq_false e, Bool.or_false]
          congr 1
          simp only [decide_eq_decide]
          omega
      simp (disch := omega) only [b_Co_pass_184, b_Co_pass_155, b_Co_pass_147, b_Co_pass_139, b_Co_pass_126, b_Co_pass_115, b_Co_pass_81, b_Co_pass_73, b_Co_pass_71, b_Co_pass_20, b_Co_pass_12, b_Co_pass_0, e_al0, e_il3, e_il4, e_il5, e_il2, e_il1, e_is3i, e_is3r, e_is3n, e_is4i, e_is4r, e_is4n, e_is5i, e_is5r, e_is5n, e_is2i, e_is2r, e_is2n, e_inc3i, e_inc3r, e_inc3n, e_c, e_i2, e_dup2, e_b1, e_b2, e_gi, e_gr, e_pi, e_ald, e_ast, e_max, e_vr, e_dupi, e_dupr, e_cs2, e_cv3, e_hd, e_c10, e_c1i, e_c1r, e_sh0, e_sh1, e_sh2, e_sh3, e_sh4, e_tls, e_tln, e_tl0, e_tl1, cl_1, cl_10, ln_10, cl_15, cl_16, ln_16, cl_18, ln_18, cl_20, ln_20, cl_22, ln_22, tg_1_6, tg_15_0, tg_15_2, tg_15_4, tg_15_6, tg_15_8, q_R_has, q_Co_isLaidOn, q_Co_settle, Nat.reduceAdd, true_and, and_true, true_implies, not_true_eq_false, false_implies, not_false_eq_true, imp_self, forall_const, List.append_nil, ra_I, ra_J, ra_pad, true_or, or_true, Nat.reduceEqDiff, ra_bz, eq_self, if_true, if_false, false_and, and_false, Nat.zero_le, List.cons_append, List.nil_append, Nat.reduceLT, Nat.reduceLeDiff, Nat.reduceMul, Nat.reduceSub, n_0, n_1, n_2, n_3, n_4, n_5, n_6, n_7, n_8, n_9, n_10, n_12, n_40, n_48, n_57, n_59, n_72, n_99, n_102, n_103, n_107, n_108, n_192, n_255, n_256, n_999, n_1000, n_104, nI_add, pk_mul, n_cl, n_inT, n_le, n_lt, n_eq, n_m1, n_m1', n_lem1, n_m1le, n_ltm1, n_m1lt, n_lepred, n_shl, fa_or, hw.1, hwj, g1, e7, e10, q_Co_isLaidOn]
      have dry : a 4 k - (sm a te k).1 j ≤ 0 → sl a te k j = false := by
        intro q
        apply ts_nt'
        intro z
        have := sm_leak (show sm_lay a te (a 4 k) (sm a te k) j = true from z)
        omega
      refine ⟨fun q => by omega, fun _ => ⟨fun q => ⟨fun q2 => stay (dry q2) _, fun q2 => ⟨k, hV, hWe, hcl, h4, hcr, j, hj, hb, rfl, by omega, ?_, fun z => more z _, fun z => stay (ts_nt' z) _⟩⟩, fun q => ⟨fun q2 => stay (dry q2) _, fun q2 => ⟨k, hV, hWe, hcl, h4, hcr, j, hj, hb, rfl, by omega, ?_, fun z => more z _, fun z => stay (ts_nt' z) _⟩⟩⟩⟩
      · rw [← hth, if_pos q]
      · rw [← hth, if_neg q]
    · simp (disch := omega) only [b_Co_pass_184, b_Co_pass_155, b_Co_pass_147, b_Co_pass_145, b_Co_pass_139, b_Co_pass_126, b_Co_pass_115, b_Co_pass_73, b_Co_pass_71, b_Co_pass_20, b_Co_pass_12, b_Co_pass_0, e_al0, e_il3, e_il4, e_il5, e_il2, e_il1, e_is3i, e_is3r, e_is3n, e_is4i, e_is4r, e_is4n, e_is5i, e_is5r, e_is5n, e_is2i, e_is2r, e_is2n, e_inc3i, e_inc3r, e_inc3n, e_c, e_i2, e_dup2, e_b1, e_b2, e_gi, e_gr, e_pi, e_ald, e_ast, e_max, e_vr, e_dupi, e_dupr, e_cs2, e_cv3, e_hd, e_c10, e_c1i, e_c1r, e_sh0, e_sh1, e_sh2, e_sh3, e_sh4, e_tls, e_tln, e_tl0, e_tl1, cl_1, cl_10, ln_10, cl_15, cl_16, ln_16, cl_18, ln_18, cl_20, ln_20, cl_22, ln_22, tg_1_6, tg_15_0, tg_15_2, tg_15_4, tg_15_6, tg_15_8, q_R_has, q_Co_isLaidOn, q_Co_settle, Nat.reduceAdd, true_and, and_true, true_implies, not_true_eq_false, false_implies, not_false_eq_true, imp_self, forall_const, List.append_nil, ra_I, ra_J, ra_pad, true_or, or_true, Nat.reduceEqDiff, ra_bz, eq_self, if_true, if_false, false_and, and_false, Nat.zero_le, List.cons_append, List.nil_append, Nat.reduceLT, Nat.reduceLeDiff, Nat.reduceMul, Nat.reduceSub, n_0, n_1, n_2, n_3, n_4, n_5, n_6, n_7, n_8, n_9, n_10, n_12, n_40, n_48, n_57, n_59, n_72, n_99, n_102, n_103, n_107, n_108, n_192, n_255, n_256, n_999, n_1000, n_104, nI_add, pk_mul, n_cl, n_inT, n_le, n_lt, n_eq, n_m1, n_m1', n_lem1, n_m1le, n_ltm1, n_m1lt, n_lepred, n_shl, fa_or, hw.1]
      refine ⟨fun _ => ⟨(100 - 0, 0, 0), lx1 (by omega), rfl, k, 0, L0, u, v, rfl, hcl, hZ, hk, by omega, hL0, hcm, hL, hV, hWe, hw, hf, rfl, rfl, fun p hp hpb => ?_, M, hM, e10, fun p hp hpb => ?_⟩, fun q => by omega⟩
      · obtain ⟨d1, d2, d3, d4, d5, d6⟩ := hcm1 p hp hpb
        obtain ⟨f1, f2, f3, f4, f5, f6⟩ := hcm1 _ (ab_on_spec hp).1 (hcl p hp hpb).1
        simp only [Nat.reduceAdd]
        rw [c3, c4, c6, if_neg (by omega), if_neg (by omega), if_neg (by omega)]
        exact ⟨(hq p hp hpb).1, (hq p hp hpb).2, d3, d6, f4⟩
      · rw [hMb p hp hpb]
        have := fb_ct_lt' (p := fun i => B.testBit i) hp hpb
        rw [decide_eq_true (show cw B p < i by unfold cw at hlt; show fb_ct _ p < i; omega)]
        simp
  · intro as σ0 Z h0 μ L S σ hI
    obtain ⟨rfl, k, i, L0, u, v, rfl, hcl, hZ, hk, hi, hL0, hcm, hL, hV, hWe, hw, hf, rfl, rfl, hq, M, hM, e10, hMb⟩ := hI
    simp only [Nat.reduceAdd] at hq
    have h4 := hW.2.2.2.2.2.1 k
    by_cases hlt : i < cw B (ab_hc a)
    · obtain ⟨j, hj, hb, hji, hwj⟩ := hw.at hlt
      have hwj : σ 16 i = nI j := hwj
      have hon := (ab_on_spec hj).1
      obtain ⟨b1, b2, b3, b4⟩ := sm_bd hW te k j hj
      obtain ⟨-, b5, -, -⟩ := sm_bd hW te k _ hon
      obtain ⟨k1, k2, k3, k4, k5⟩ := hq j hj hb
      rw [if_neg (by omega)] at k3 k4 k5
      have hMj := hMb j hj hb
      simp (disch := omega) only [b_Co_pass_155, b_Co_pass_147, b_Co_pass_145, b_Co_pass_139, b_Co_pass_126, b_Co_pass_115, b_Co_pass_81, b_Co_pass_73, b_Co_pass_71, b_Co_pass_20, b_Co_pass_12, b_Co_pass_0, e_al0, e_il3, e_il4, e_il5, e_il2, e_il1, e_is3i, e_is3r, e_is3n, e_is4i, e_is4r, e_is4n, e_is5i, e_is5r, e_is5n, e_is2i, e_is2r, e_is2n, e_inc3i, e_inc3r, e_inc3n, e_c, e_i2, e_dup2, e_b1, e_b2, e_gi, e_gr, e_pi, e_ald, e_ast, e_max, e_vr, e_dupi, e_dupr, e_cs2, e_cv3, e_hd, e_c10, e_c1i, e_c1r, e_sh0, e_sh1, e_sh2, e_sh3, e_sh4, e_tls, e_tln, e_tl0, e_tl1, cl_1, cl_10, ln_10, cl_15, cl_16, ln_16, cl_18, ln_18, cl_20, ln_20, cl_22, ln_22, tg_1_6, tg_15_0, tg_15_2, tg_15_4, tg_15_6, tg_15_8, q_R_has, q_Co_isLaidOn, q_Co_settle, Nat.reduceAdd, true_and, and_true, true_implies, not_true_eq_false, false_implies, not_false_eq_true, imp_self, forall_const, List.append_nil, ra_I, ra_J, ra_pad, true_or, or_true, Nat.reduceEqDiff, ra_bz, eq_self, if_true, if_false, false_and, and_false, Nat.zero_le, List.cons_append, List.nil_append, Nat.reduceLT, Nat.reduceLeDiff, Nat.reduceMul, Nat.reduceSub, n_0, n_1, n_2, n_3, n_4, n_5, n_6, n_7, n_8, n_9, n_10, n_12, n_40, n_48, n_57, n_59, n_72, n_99, n_102, n_103, n_107, n_108, n_192, n_255, n_256, n_999, n_1000, n_104, nI_add, pk_mul, n_cl, n_inT, n_le, n_lt, n_eq, n_m1, n_m1', n_lem1, n_m1le, n_ltm1, n_m1lt, n_lepred, n_shl, fa_or, hw.1, hwj, e10, q_Co_settle, Nat.reduceAdd]
      have step : ∀ (T Q P : Nat) (σ' : ra_St), T = (sm a te (k + 1)).1 j → Q = (sm a te (k + 1)).2.2.2.1 j → P = (sm a te (k + 1)).2.1 (ab_on a j) → σ' = ra_sw (ra_sw (ra_sw σ 18 j (nI T)) 21 j (nI Q)) 19 (ab_on a j) (nI P) → ∃ μ', ra_lx μ' (100 - i, 0, 0) ∧ I_Co_pass 15 a B te Z [.ref 15, .int (nI (a 4 k))] σ0 147 μ' [.ref 15, .int (nI (a 4 k)), .int (nI L0), .int (nI (i + 1)), u, v] [] σ' := by
        intro T Q P σ' hT hQ hP hs
        subst hs
        have hf1 : ra_fs [18, 19, 20, 21, 22] [(15, 10)] σ (ra_sw (ra_sw (ra_sw σ 18 j (nI T)) 21 j (nI Q)) 19 (ab_on a j) (nI P)) := ((ra_fs.rf.sw (Or.inl (by decide))).sw (Or.inl (by decide))).sw (Or.inl (by decide))
        refine ⟨(100 - (i + 1), 0, 0), lx1 (by omega), rfl, k, i + 1, L0, u, v, rfl, hcl, hZ, hk, by omega, hL0, hcm, hL, hV.fs hf1 (by decide), hWe.fs hf1 (by decide), hw.fs hf1 (by decide), hf.tr hf1 (by decide) (by decide), rfl, rfl, fun p hp hpb => ?_, M, hM, by simpa [sw_at] using e10, hMb⟩
        obtain ⟨m1, m2, m3, m4, m5⟩ := hq p hp hpb
        by_cases e : p = j
        · subst e
          rw [if_pos (by omega), if_pos (by omega), if_pos (by omega), ← hT, ← hQ, ← hP]
          simpa [sw_at] using ⟨m1, m2⟩
        · have e2 : ¬ cw B p = i := fun z => e (fb_ct_inj' hpb hb (z.trans hji.symm))
          have e3 : ¬ ab_on a p = ab_on a j := by
            intro z
            have z2 := (ab_on_spec hp).2
            rw [z, (ab_on_spec hj).2] at z2
            exact e z2.symm
          have e4 : (cw B p < i + 1) = (cw B p < i) := propext ⟨fun _ => by omega, fun _ => by omega⟩
          simp only [Nat.reduceAdd, e4]
          simpa [sw_at, e, e3] using ⟨m1, m2, m3, m4, m5⟩
      obtain ⟨s1, -, s3⟩ := sm_s (a := a) (te := te) (k := k) (j := j)
      obtain ⟨-, s2, -⟩ := sm_s (a := a) (te := te) (k := k) (j := ab_on a j)
      rw [(ab_on_spec hj).2] at s2
      refine ⟨fun q => by omega, fun _ => ⟨fun q => ⟨hV, hWe, j, 1, (sm a te k).1 j, (sm a te k).2.1 (ab_on a j), (sm a te k).2.2.2.1 j, a 4 k - (sm a te k).1 j, hj, rfl, by omega, rfl, k3, b1, k5, b5, k4, by omega, k1, by omega, fun _ => ?_, fun _ => ?_, fun z => absurd z (by decide), fun z => absurd z (by decide)⟩, fun q => ⟨hV, hWe, j, 0, (sm a te k).1 j, (sm a te k).2.1 (ab_on a j), (sm a te k).2.2.2.1 j, a 4 k - (sm a te k).1 j, hj, rfl, by omega, rfl, k3, b1, k5, b5, k4, by omega, k1, by omega, fun z => absurd rfl z, fun z => absurd rfl z, fun _ q2 => ?_, fun _ q2 => ?_⟩⟩⟩
      · rw [hMj] at q
        have := (sm_laid (show sm_lay a te (a 4 k) (sm a te k) j = true from q)).1
        exact this
      · rw [hMj] at q
        rw [if_pos q] at s1 s2 s3
        exact step _ _ _ _ s1.symm s3.symm s2.symm rfl
      · rw [hMj] at q
        rw [if_neg q] at s1 s2 s3
        rw [if_pos q2] at s1
        refine step _ _ _ _ s1.symm s3.symm s2.symm ?_
        rw [sw_same (c := 21) (by simpa [sw_at] using k4), sw_same (c := 19) (by simpa [sw_at] using k5)]
      · rw [hMj] at q
        rw [if_neg q] at s1 s2 s3
        rw [if_neg q2] at s1
        refine step _ _ _ _ s1.symm s3.symm s2.symm ?_
        rw [sw_same k3, sw_same (c := 21) (by simpa using k4), sw_same (c := 19) k5]
    · simp (disch := omega) only [b_Co_pass_184, b_Co_pass_147, b_Co_pass_145, b_Co_pass_139, b_Co_pass_126, b_Co_pass_115, b_Co_pass_81, b_Co_pass_73, b_Co_pass_71, b_Co_pass_20, b_Co_pass_12, b_Co_pass_0, e_al0, e_il3, e_il4, e_il5, e_il2, e_il1, e_is3i, e_is3r, e_is3n, e_is4i, e_is4r, e_is4n, e_is5i, e_is5r, e_is5n, e_is2i, e_is2r, e_is2n, e_inc3i, e_inc3r, e_inc3n, e_c, e_i2, e_dup2, e_b1, e_b2, e_gi, e_gr, e_pi, e_ald, e_ast, e_max, e_vr, e_dupi, e_dupr, e_cs2, e_cv3, e_hd, e_c10, e_c1i, e_c1r, e_sh0, e_sh1, e_sh2, e_sh3, e_sh4, e_tls, e_tln, e_tl0, e_tl1, cl_1, cl_10, ln_10, cl_15, cl_16, ln_16, cl_18, ln_18, cl_20, ln_20, cl_22, ln_22, tg_1_6, tg_15_0, tg_15_2, tg_15_4, tg_15_6, tg_15_8, q_R_has, q_Co_isLaidOn, q_Co_settle, Nat.reduceAdd, true_and, and_true, true_implies, not_true_eq_false, false_implies, not_false_eq_true, imp_self, forall_const, List.append_nil, ra_I, ra_J, ra_pad, true_or, or_true, Nat.reduceEqDiff, ra_bz, eq_self, if_true, if_false, false_and, and_false, Nat.zero_le, List.cons_append, List.nil_append, Nat.reduceLT, Nat.reduceLeDiff, Nat.reduceMul, Nat.reduceSub, n_0, n_1, n_2, n_3, n_4, n_5, n_6, n_7, n_8, n_9, n_10, n_12, n_40, n_48, n_57, n_59, n_72, n_99, n_102, n_103, n_107, n_108, n_192, n_255, n_256, n_999, n_1000, n_104, nI_add, pk_mul, n_cl, n_inT, n_le, n_lt, n_eq, n_m1, n_m1', n_lem1, n_m1le, n_ltm1, n_m1lt, n_lepred, n_shl, fa_or, hw.1]
      have all : ∀ p, p < ab_hc a → B.testBit p = true → cw B p < i := by
        intro p hp hpb
        have := fb_ct_lt' (p := fun i => B.testBit i) hp hpb
        show fb_ct _ p < i
        unfold cw at hlt
        omega
      refine ⟨fun _ => hZ σ ⟨fun p hp hpb => ?_, M, hM, e10, hMb⟩ hf, fun q => by omega⟩
      obtain ⟨d1, d2, -⟩ := hcm.1 p hp hpb
      obtain ⟨m1, m2, m3, m4, -⟩ := hq p hp hpb
      have how := ab_ow_lt hp
      have hob := (hcl p hp hpb).2
      obtain ⟨-, -, -, -, m5⟩ := hq _ how hob
      rw [if_pos (all p hp hpb)] at m3 m4
      rw [if_pos (all _ how hob), ab_on_ow hp] at m5
      simp only [Nat.reduceAdd] at d1 ⊢
      refine ⟨?_, d2, m3, m5, m2, m4⟩
      rw [← d1]
      exact hf 17 p (by decide) (by simp)
theorem k_Co_pass_29 {l : Launch} {X : ra_X} {a : Ab} {B : Nat} {te : Nat → Nat} (hW : ab_W a) : ra_MOK l X mi_Co_pass (sp_Co_pass 29 a B te) := by
  have h8 := ab_hc_8 a
  have hc := cw_le B (ab_hc a)
  refine g_Co_pass (c1 := fun as σ Z => ∃ k : Nat, True ∧ sp_Co_isLaidOn 29 a B te (a 4 k) (sm a te k) as σ Z) k_R_has (ra_MOK_ex (fun k _ => k_Co_isLaidOn_29 hW)) (k_Co_settle_29 hW) (sp_Co_pass 29 a B te) (I_Co_pass 29 a B te) ?_ ?_ ?_ ?_
  · intro as σ Z _ _ h
    obtain ⟨_, rfl, hV, hWe, hcl, hw, k, hk, rfl, hcm, hZ⟩ := x_f1 h
    obtain ⟨hm, L0, hL0, e10, hL⟩ := hcm
    have hf : ra_fs [32, 33, 34, 35, 36] [(29, 10)] σ (ra_sw σ 29 10 (nI 0)) := ra_fs.rf.sw (Or.inr (by decide))
    simp (disch := omega) only [b_Co_pass_184, b_Co_pass_155, b_Co_pass_147, b_Co_pass_145, b_Co_pass_139, b_Co_pass_126, b_Co_pass_115, b_Co_pass_81, b_Co_pass_73, b_Co_pass_71, b_Co_pass_20, b_Co_pass_12, b_Co_pass_0, e_al0, e_il3, e_il4, e_il5, e_il2, e_il1, e_is3i, e_is3r, e_is3n, e_is4i, e_is4r, e_is4n, e_is5i, e_is5r, e_is5n, e_is2i, e_is2r, e_is2n, e_inc3i, e_inc3r, e_inc3n, e_c, e_i2, e_dup2, e_b1, e_b2, e_gi, e_gr, e_pi, e_ald, e_ast, e_max, e_vr, e_dupi, e_dupr, e_cs2, e_cv3, e_hd, e_c10, e_c1i, e_c1r, e_sh0, e_sh1, e_sh2, e_sh3, e_sh4, e_tls, e_tln, e_tl0, e_tl1, cl_1, cl_10, ln_10, cl_29, cl_30, ln_30, cl_32, ln_32, cl_34, ln_34, cl_36, ln_36, tg_1_6, tg_29_0, tg_29_2, tg_29_4, tg_29_6, tg_29_8, q_R_has, q_Co_isLaidOn, q_Co_settle, Nat.reduceAdd, true_and, and_true, true_implies, not_true_eq_false, false_implies, not_false_eq_true, imp_self, forall_const, List.append_nil, ra_I, ra_J, ra_pad, true_or, or_true, Nat.reduceEqDiff, ra_bz, eq_self, if_true, if_false, false_and, and_false, Nat.zero_le, List.cons_append, List.nil_append, Nat.reduceLT, Nat.reduceLeDiff, Nat.reduceMul, Nat.reduceSub, n_0, n_1, n_2, n_3, n_4, n_5, n_6, n_7, n_8, n_9, n_10, n_12, n_40, n_48, n_57, n_59, n_72, n_99, n_102, n_103, n_107, n_108, n_192, n_255, n_256, n_999, n_1000, n_104, nI_add, pk_mul, n_cl, n_inT, n_le, n_lt, n_eq, n_m1, n_m1', n_lem1, n_m1le, n_ltm1, n_m1lt, n_lepred, n_shl, fa_or, e10]
    refine ⟨_, rfl, k, 0, L0, _, _, rfl, hcl, hZ, hk, by omega, hL0, ⟨hm, L0, hL0, e10, hL⟩, hL, hV.fs hf (by decide), hWe.fs hf (by decide), hw.fs hf (by decide), hf, rfl, rfl, by simp [sw_at], rfl, rfl, rfl, fun j hj hb => ⟨fun q => by omega, fun _ => ?_⟩⟩
    simpa [sw_at] using (hm j hj hb).2.2.2.2.1
  · intro as σ0 Z h0 μ L S σ hI
    obtain ⟨rfl, k, i, L0, u, v, rfl, hcl, hZ, hk, hi, hL0, hcm, hL, hV, hWe, hw, hf, rfl, rfl, e10, c3, c4, c6, hq⟩ := hI
    simp only [Nat.reduceAdd] at c3 c4 c6 hq
    have h4 := hW.2.2.2.2.2.1 k
    by_cases hlt : i < cw B (ab_hc a)
    · obtain ⟨j, hj, hb, hji, hwj⟩ := hw.at hlt
      have hwj : σ 30 i = nI j := hwj
      obtain ⟨b1, b2, b3, b4⟩ := sm_bd hW te k j hj
      have e3 : σ 32 j = nI ((sm a te k).1 j) := by rw [c3]; exact (hcm.1 j hj hb).2.2.1
      have e5 : σ 34 j = nI ((sm a te k).2.2.1 j) := (hq j hj hb).2 (by omega)
      have eh : (sm a te (k + 1)).2.2.1 j = (sm a te k).2.2.1 j + (a 4 k - (sm a te k).1 j) := rfl
      simp (disch := omega) only [b_Co_pass_184, b_Co_pass_155, b_Co_pass_147, b_Co_pass_145, b_Co_pass_139, b_Co_pass_126, b_Co_pass_115, b_Co_pass_81, b_Co_pass_73, b_Co_pass_20, b_Co_pass_12, b_Co_pass_0, e_al0, e_il3, e_il4, e_il5, e_il2, e_il1, e_is3i, e_is3r, e_is3n, e_is4i, e_is4r, e_is4n, e_is5i, e_is5r, e_is5n, e_is2i, e_is2r, e_is2n, e_inc3i, e_inc3r, e_inc3n, e_c, e_i2, e_dup2, e_b1, e_b2, e_gi, e_gr, e_pi, e_ald, e_ast, e_max, e_vr, e_dupi, e_dupr, e_cs2, e_cv3, e_hd, e_c10, e_c1i, e_c1r, e_sh0, e_sh1, e_sh2, e_sh3, e_sh4, e_tls, e_tln, e_tl0, e_tl1, cl_1, cl_10, ln_10, cl_29, cl_30, ln_30, cl_32, ln_32, cl_34, ln_34, cl_36, ln_36, tg_1_6, tg_29_0, tg_29_2, tg_29_4, tg_29_6, tg_29_8, q_R_has, q_Co_isLaidOn, q_Co_settle, Nat.reduceAdd, true_and, and_true, true_implies, not_true_eq_false, false_implies, not_false_eq_true, imp_self, forall_const, List.append_nil, ra_I, ra_J, ra_pad, true_or, or_true, Nat.reduceEqDiff, ra_bz, eq_self, if_true, if_false, false_and, and_false, Nat.zero_le, List.cons_append, List.nil_append, Nat.reduceLT, Nat.reduceLeDiff, Nat.reduceMul, Nat.reduceSub, n_0, n_1, n_2, n_3, n_4, n_5, n_6, n_7, n_8, n_9, n_10, n_12, n_40, n_48, n_57, n_59, n_72, n_99, n_102, n_103, n_107, n_108, n_192, n_255, n_256, n_999, n_1000, n_104, nI_add, pk_mul, n_cl, n_inT, n_le, n_lt, n_eq, n_m1, n_m1', n_lem1, n_m1le, n_ltm1, n_m1lt, n_lepred, n_shl, fa_or, hw.1, hwj, e3, e5, n_max0, sw_at]
      have hf1 : ra_fs [32, 33, 34, 35, 36] [(29, 10)] σ (ra_sw (ra_sw σ 36 j (nI (a 4 k - (sm a te k).1 j))) 34 j (nI ((sm a te k).2.2.1 j + (a 4 k - (sm a te k).1 j)))) := (ra_fs.rf.sw (Or.inl (by decide))).sw (Or.inl (by decide))
      refine ⟨fun q => by omega, fun _ => ⟨(300 - (i + 1), 0, 0), lx1 (by omega), rfl, k, i + 1, L0, _, v, rfl, hcl, hZ, hk, by omega, hL0, hcm, hL, hV.fs hf1 (by decide), hWe.fs hf1 (by decide), hw.fs hf1 (by decide), hf.tr hf1 (by decide) (by decide), rfl, rfl, by simpa [sw_at] using e10, ?_, ?_, ?_, fun p hp hpb => ?_⟩⟩
      · rw [← c3]; rfl
      · rw [← c4]; rfl
      · rw [← c6]; rfl
      · simp only [Nat.reduceAdd]
        by_cases e : p = j
        · subst e
          refine ⟨fun _ => ?_, fun z => by omega⟩
          rw [eh]
          simp [sw_at]
        · have e2 : ¬ cw B p = i := fun z => e (fb_ct_inj' hpb hb (z.trans hji.symm))
          have h9 := hq p hp hpb
          refine ⟨fun z => ?_, fun z => ?_⟩
          · simpa [sw_at, e] using h9.1 (by omega)
          · simpa [sw_at, e] using h9.2 (by omega)
    · simp (disch := omega) only [b_Co_pass_184, b_Co_pass_155, b_Co_pass_147, b_Co_pass_145, b_Co_pass_139, b_Co_pass_126, b_Co_pass_115, b_Co_pass_81, b_Co_pass_73, b_Co_pass_71, b_Co_pass_12, b_Co_pass_0, e_al0, e_il3, e_il4, e_il5, e_il2, e_il1, e_is3i, e_is3r, e_is3n, e_is4i, e_is4r, e_is4n, e_is5i, e_is5r, e_is5n, e_is2i, e_is2r, e_is2n, e_inc3i, e_inc3r, e_inc3n, e_c, e_i2, e_dup2, e_b1, e_b2, e_gi, e_gr, e_pi, e_ald, e_ast, e_max, e_vr, e_dupi, e_dupr, e_cs2, e_cv3, e_hd, e_c10, e_c1i, e_c1r, e_sh0, e_sh1, e_sh2, e_sh3, e_sh4, e_tls, e_tln, e_tl0, e_tl1, cl_1, cl_10, ln_10, cl_29, cl_30, ln_30, cl_32, ln_32, cl_34, ln_34, cl_36, ln_36, tg_1_6, tg_29_0, tg_29_2, tg_29_4, tg_29_6, tg_29_8, q_R_has, q_Co_isLaidOn, q_Co_settle, Nat.reduceAdd, true_and, and_true, true_implies, not_true_eq_false, false_implies, not_false_eq_true, imp_self, forall_const, List.append_nil, ra_I, ra_J, ra_pad, true_or, or_true, Nat.reduceEqDiff, ra_bz, eq_self, if_true, if_false, false_and, and_false, Nat.zero_le, List.cons_append, List.nil_append, Nat.reduceLT, Nat.reduceLeDiff, Nat.reduceMul, Nat.reduceSub, n_0, n_1, n_2, n_3, n_4, n_5, n_6, n_7, n_8, n_9, n_10, n_12, n_40, n_48, n_57, n_59, n_72, n_99, n_102, n_103, n_107, n_108, n_192, n_255, n_256, n_999, n_1000, n_104, nI_add, pk_mul, n_cl, n_inT, n_le, n_lt, n_eq, n_m1, n_m1', n_lem1, n_m1le, n_ltm1, n_m1lt, n_lepred, n_shl, fa_or, hw.1]
      refine ⟨fun _ => ⟨(200 - 0, 0, 0), lx1 (by omega), rfl, k, 0, L0, u, v, rfl, hcl, hZ, hk, by omega, hL0, hcm, hL, hV, hWe, hw, hf, rfl, rfl, c3, c4, c6, fun p hp hpb => (hq p hp hpb).1 ?_, 0, by omega, e10, fun p hp hpb => ?_⟩, fun q => by omega⟩
      · have := fb_ct_lt' (p := fun i => B.testBit i) hp hpb
        show fb_ct _ p < i
        unfold cw at hlt
        omega
      · simp
  · intro as σ0 Z h0 μ L S σ hI
    obtain ⟨rfl, k, i, L0, u, v, rfl, hcl, hZ, hk, hi, hL0, hcm, hL, hV, hWe, hw, hf, rfl, rfl, c3, c4, c6, hq, M, hM, e10, hMb⟩ := hI
    simp only [Nat.reduceAdd] at c3 c4 c6 hq
    have h4 := hW.2.2.2.2.2.1 k
    have hcm1 := hcm.1
    simp only [Nat.reduceAdd] at hcm1
    by_cases hlt : i < cw B (ab_hc a)
    · obtain ⟨j, hj, hb, hji, hwj⟩ := hw.at hlt
      have hwj : σ 30 i = nI j := hwj
      obtain ⟨b1, b2, b3, b4⟩ := sm_bd hW te k j hj
      have hon := (ab_on_spec hj).1
      have hob := (hcl j hj hb).1
      have g1 := (hV.2.2.2.2 j hj).2.1
      have e7 := (hq j hj hb).1
      have e2' : ∀ c, σ 31 c = σ0 31 c := fun c => hf 31 c (by decide) (by simp)
      have hcr : rc_cr 29 a B te (a 4 k) (sm a te k) σ := by
        intro p hp hpb
        obtain ⟨d1, d2, d3, d4, d5, d6⟩ := hcm1 p hp hpb
        obtain ⟨x1, x2, -, -⟩ := sm_bd hW te k p hp
        simp only [Nat.reduceAdd]
        rw [e2', c3, c4]
        exact ⟨d1, d2, d3, d4, (hq p hp hpb).1, x1, x2⟩
      have hth := hL _ hon hob
      have step : ∀ (M' : Nat) (w : Int32) (σ' : ra_St), M' < 256 → σ' 29 10 = nI M' → (∀ c, c ≠ 29 → σ' c = σ c) → (∀ x, x ≠ 10 → σ' 29 x = σ 29 x) → (∀ p, p < ab_hc a → B.testBit p = true → M'.testBit p = (decide (cw B p < i + 1) && sl a te k p)) → ∃ μ', ra_lx μ' (200 - i, 0, 0) ∧ I_Co_pass 29 a B te Z [.ref 29, .int (nI (a 4 k))] σ0 73 μ' [.ref 29, .int (nI (a 4 k)), .int (nI L0), .int (nI (i + 1)), .int (nI j), .int w] [] σ' := by
        intro M' w σ' y1 y2 y3 y4 y5
        have hf1 : ra_fs [32, 33, 34, 35, 36] [(29, 10)] σ σ' := by
          intro c x hc1 hx1
          by_cases e : c = 29
          · subst e
            exact y4 x (fun z => hx1 (by rw [z]; decide))
          · rw [y3 c e]
        refine ⟨(200 - (i + 1), 0, 0), lx1 (by omega), rfl, k, i + 1, L0, _, _, rfl, hcl, hZ, hk, by omega, hL0, hcm, hL, hV.fs hf1 (by decide), hWe.fs hf1 (by decide), hw.fs hf1 (by decide), hf.tr hf1 (by decide) (by decide), rfl, rfl, ?_, ?_, ?_, ?_, M', y1, y2, y5⟩
        · simp only [Nat.reduceAdd]; rw [y3 _ (by decide)]; exact c3
        · simp only [Nat.reduceAdd]; rw [y3 _ (by decide)]; exact c4
        · simp only [Nat.reduceAdd]; rw [y3 _ (by decide)]; exact c6
        · simp only [Nat.reduceAdd]; rw [y3 _ (by decide), y3 _ (by decide)]; exact hq
      have stay : sl a te k j = false → ∀ w : Int32, ∃ μ', ra_lx μ' (200 - i, 0, 0) ∧ I_Co_pass 29 a B te Z [.ref 29, .int (nI (a 4 k))] σ0 73 μ' [.ref 29, .int (nI (a 4 k)), .int (nI L0), .int (nI (i + 1)), .int (nI j), .int w] [] σ := by
        intro hs w
        refine step M w σ hM e10 (fun _ _ => rfl) (fun _ _ => rfl) (fun p hp hpb => ?_)
        rw [hMb p hp hpb]
        by_cases e : p = j
        · subst e; rw [hs]; simp
        · have e2 : ¬ cw B p = i := fun z => e (fb_ct_inj' hpb hb (z.trans hji.symm))
          congr 1
          simp only [decide_eq_decide]
          omega
      have more : sl a te k j = true → ∀ w : Int32, ∃ μ', ra_lx μ' (200 - i, 0, 0) ∧ I_Co_pass 29 a B te Z [.ref 29, .int (nI (a 4 k))] σ0 73 μ' [.ref 29, .int (nI (a 4 k)), .int (nI L0), .int (nI (i + 1)), .int (nI j), .int w] [] (ra_sw σ 29 10 (nI (M ||| 2 ^ j))) := by
        intro hs w
        refine step (M ||| 2 ^ j) w _ (Nat.or_lt_two_pow (n := 8) hM (Nat.pow_lt_pow_right (by decide) (by omega))) (by simp [sw_at]) (fun c hc => ra_su_ne _ _ hc) (fun x hx => by simp [sw_at, hx]) (fun p hp hpb => ?_)
        rw [n_tb_or, hMb p hp hpb]
        by_cases e : p = j
        · subst e; rw [hs]; simp; omega
        · have e2 : ¬ cw B p = i := fun z => e (fb_ct_inj' hpb hb (z.trans hji.symm))
          rw [decide_eq_false e, Bool.or_false]
          congr 1
          simp only [decide_eq_decide]
          omega
      simp (disch := omega) only [b_Co_pass_184, b_Co_pass_155, b_Co_pass_147, b_Co_pass_139, b_Co_pass_126, b_Co_pass_115, b_Co_pass_81, b_Co_pass_73, b_Co_pass_71, b_Co_pass_20, b_Co_pass_12, b_Co_pass_0, e_al0, e_il3, e_il4, e_il5, e_il2, e_il1, e_is3i, e_is3r, e_is3n, e_is4i, e_is4r, e_is4n, e_is5i, e_is5r, e_is5n, e_is2i, e_is2r, e_is2n, e_inc3i, e_inc3r, e_inc3n, e_c, e_i2, e_dup2, e_b1, e_b2, e_gi, e_gr, e_pi, e_ald, e_ast, e_max, e_vr, e_dupi, e_dupr, e_cs2, e_cv3, e_hd, e_c10, e_c1i, e_c1r, e_sh0, e_sh1, e_sh2, e_sh3, e_sh4, e_tls, e_tln, e_tl0, e_tl1, cl_1, cl_10, ln_10, cl_29, cl_30, ln_30, cl_32, ln_32, cl_34, ln_34, cl_36, ln_36, tg_1_6, tg_29_0, tg_29_2, tg_29_4, tg_29_6, tg_29_8, q_R_has, q_Co_isLaidOn, q_Co_settle, Nat.reduceAdd, true_and, and_true, true_implies, not_true_eq_false, false_implies, not_false_eq_true, imp_self, forall_const, List.append_nil, ra_I, ra_J, ra_pad, true_or, or_true, Nat.reduceEqDiff, ra_bz, eq_self, if_true, if_false, false_and, and_false, Nat.zero_le, List.cons_append, List.nil_append, Nat.reduceLT, Nat.reduceLeDiff, Nat.reduceMul, Nat.reduceSub, n_0, n_1, n_2, n_3, n_4, n_5, n_6, n_7, n_8, n_9, n_10, n_12, n_40, n_48, n_57, n_59, n_72, n_99, n_102, n_103, n_107, n_108, n_192, n_255, n_256, n_999, n_1000, n_104, nI_add, pk_mul, n_cl, n_inT, n_le, n_lt, n_eq, n_m1, n_m1', n_lem1, n_m1le, n_ltm1, n_m1lt, n_lepred, n_shl, fa_or, hw.1, hwj, g1, e7, e10, q_Co_isLaidOn]
      have dry : a 4 k - (sm a te k).1 j ≤ 0 → sl a te k j = false := by
        intro q
        apply ts_nt'
        intro z
        have := sm_leak (show sm_lay a te (a 4 k) (sm a te k) j = true from z)
        omega
      refine ⟨fun q => by omega, fun _ => ⟨fun q => ⟨fun q2 => stay (dry q2) _, fun q2 => ⟨k, hV, hWe, hcl, h4, hcr, j, hj, hb, rfl, by omega, ?_, fun z => more z _, fun z => stay (ts_nt' z) _⟩⟩, fun q => ⟨fun q2 => stay (dry q2) _, fun q2 => ⟨k, hV, hWe, hcl, h4, hcr, j, hj, hb, rfl, by omega, ?_, fun z => more z _, fun z => stay (ts_nt' z) _⟩⟩⟩⟩
      · rw [← hth, if_pos q]
      · rw [← hth, if_neg q]
    · simp (disch := omega) only [b_Co_pass_184, b_Co_pass_155, b_Co_pass_147, b_Co_pass_145, b_Co_pass_139, b_Co_pass_126, b_Co_pass_115, b_Co_pass_73, b_Co_pass_71, b_Co_pass_20, b_Co_pass_12, b_Co_pass_0, e_al0, e_il3, e_il4, e_il5, e_il2, e_il1, e_is3i, e_is3r, e_is3n, e_is4i, e_is4r, e_is4n, e_is5i, e_is5r, e_is5n, e_is2i, e_is2r, e_is2n, e_inc3i, e_inc3r, e_inc3n, e_c, e_i2, e_dup2, e_b1, e_b2, e_gi, e_gr, e_pi, e_ald, e_ast, e_max, e_vr, e_dupi, e_dupr, e_cs2, e_cv3, e_hd, e_c10, e_c1i, e_c1r, e_sh0, e_sh1, e_sh2, e_sh3, e_sh4, e_tls, e_tln, e_tl0, e_tl1, cl_1, cl_10, ln_10, cl_29, cl_30, ln_30, cl_32, ln_32, cl_34, ln_34, cl_36, ln_36, tg_1_6, tg_29_0, tg_29_2, tg_29_4, tg_29_6, tg_29_8, q_R_has, q_Co_isLaidOn, q_Co_settle, Nat.reduceAdd, true_and, and_true, true_implies, not_true_eq_false, false_implies, not_false_eq_true, imp_self, forall_const, List.append_nil, ra_I, ra_J, ra_pad, true_or, or_true, Nat.reduceEqDiff, ra_bz, eq_self, if_true, if_false, false_and, and_false, Nat.zero_le, List.cons_append, List.nil_append, Nat.reduceLT, Nat.reduceLeDiff, Nat.reduceMul, Nat.reduceSub, n_0, n_1, n_2, n_3, n_4, n_5, n_6, n_7, n_8, n_9, n_10, n_12, n_40, n_48, n_57, n_59, n_72, n_99, n_102, n_103, n_107, n_108, n_192, n_255, n_256, n_999, n_1000, n_104, nI_add, pk_mul, n_cl, n_inT, n_le, n_lt, n_eq, n_m1, n_m1', n_lem1, n_m1le, n_ltm1, n_m1lt, n_lepred, n_shl, fa_or, hw.1]
      refine ⟨fun _ => ⟨(100 - 0, 0, 0), lx1 (by omega), rfl, k, 0, L0, u, v, rfl, hcl, hZ, hk, by omega, hL0, hcm, hL, hV, hWe, hw, hf, rfl, rfl, fun p hp hpb => ?_, M, hM, e10, fun p hp hpb => ?_⟩, fun q => by omega⟩
      · obtain ⟨d1, d2, d3, d4, d5, d6⟩ := hcm1 p hp hpb
        obtain ⟨f1, f2, f3, f4, f5, f6⟩ := hcm1 _ (ab_on_spec hp).1 (hcl p hp hpb).1
        simp only [Nat.reduceAdd]
        rw [c3, c4, c6, if_neg (by omega), if_neg (by omega), if_neg (by omega)]
        exact ⟨(hq p hp hpb).1, (hq p hp hpb).2, d3, d6, f4⟩
      · rw [hMb p hp hpb]
        have := fb_ct_lt' (p := fun i => B.testBit i) hp hpb
        rw [decide_eq_true (show cw B p < i by unfold cw at hlt; show fb_ct _ p < i; omega)]
        simp
  · intro as σ0 Z h0 μ L S σ hI
    obtain ⟨rfl, k, i, L0, u, v, rfl, hcl, hZ, hk, hi, hL0, hcm, hL, hV, hWe, hw, hf, rfl, rfl, hq, M, hM, e10, hMb⟩ := hI
    simp only [Nat.reduceAdd] at hq
    have h4 := hW.2.2.2.2.2.1 k
    by_cases hlt : i < cw B (ab_hc a)
    · obtain ⟨j, hj, hb, hji, hwj⟩ := hw.at hlt
      have hwj : σ 30 i = nI j := hwj
      have hon := (ab_on_spec hj).1
      obtain ⟨b1, b2, b3, b4⟩ := sm_bd hW te k j hj
      obtain ⟨-, b5, -, -⟩ := sm_bd hW te k _ hon
      obtain ⟨k1, k2, k3, k4, k5⟩ := hq j hj hb
      rw [if_neg (by omega)] at k3 k4 k5
      have hMj := hMb j hj hb
      simp (disch := omega) only [b_Co_pass_155, b_Co_pass_147, b_Co_pass_145, b_Co_pass_139, b_Co_pass_126, b_Co_pass_115, b_Co_pass_81, b_Co_pass_73, b_Co_pass_71, b_Co_pass_20, b_Co_pass_12, b_Co_pass_0, e_al0, e_il3, e_il4, e_il5, e_il2, e_il1, e_is3i, e_is3r, e_is3n, e_is4i, e_is4r, e_is4n, e_is5i, e_is5r, e_is5n, e_is2i, e_is2r, e_is2n, e_inc3i, e_inc3r, e_inc3n, e_c, e_i2, e_dup2, e_b1, e_b2, e_gi, e_gr, e_pi, e_ald, e_ast, e_max, e_vr, e_dupi, e_dupr, e_cs2, e_cv3, e_hd, e_c10, e_c1i, e_c1r, e_sh0, e_sh1, e_sh2, e_sh3, e_sh4, e_tls, e_tln, e_tl0, e_tl1, cl_1, cl_10, ln_10, cl_29, cl_30, ln_30, cl_32, ln_32, cl_34, ln_34, cl_36, ln_36, tg_1_6, tg_29_0, tg_29_2, tg_29_4, tg_29_6, tg_29_8, q_R_has, q_Co_isLaidOn, q_Co_settle, Nat.reduceAdd, true_and, and_true, true_implies, not_true_eq_false, false_implies, not_false_eq_true, imp_self, forall_const, List.append_nil, ra_I, ra_J, ra_pad, true_or, or_true, Nat.reduceEqDiff, ra_bz, eq_self, if_true, if_false, false_and, and_false, Nat.zero_le, List.cons_append, List.nil_append, Nat.reduceLT, Nat.reduceLeDiff, Nat.reduceMul, Nat.reduceSub, n_0, n_1, n_2, n_3, n_4, n_5, n_6, n_7, n_8, n_9, n_10, n_12, n_40, n_48, n_57, n_59, n_72, n_99, n_102, n_103, n_107, n_108, n_192, n_255, n_256, n_999, n_1000, n_104, nI_add, pk_mul, n_cl, n_inT, n_le, n_lt, n_eq, n_m1, n_m1', n_lem1, n_m1le, n_ltm1, n_m1lt, n_lepred, n_shl, fa_or, hw.1, hwj, e10, q_Co_settle, Nat.reduceAdd]
      have step : ∀ (T Q P : Nat) (σ' : ra_St), T = (sm a te (k + 1)).1 j → Q = (sm a te (k + 1)).2.2.2.1 j → P = (sm a te (k + 1)).2.1 (ab_on a j) → σ' = ra_sw (ra_sw (ra_sw σ 32 j (nI T)) 35 j (nI Q)) 33 (ab_on a j) (nI P) → ∃ μ', ra_lx μ' (100 - i, 0, 0) ∧ I_Co_pass 29 a B te Z [.ref 29, .int (nI (a 4 k))] σ0 147 μ' [.ref 29, .int (nI (a 4 k)), .int (nI L0), .int (nI (i + 1)), u, v] [] σ' := by
        intro T Q P σ' hT hQ hP hs
        subst hs
        have hf1 : ra_fs [32, 33, 34, 35, 36] [(29, 10)] σ (ra_sw (ra_sw (ra_sw σ 32 j (nI T)) 35 j (nI Q)) 33 (ab_on a j) (nI P)) := ((ra_fs.rf.sw (Or.inl (by decide))).sw (Or.inl (by decide))).sw (Or.inl (by decide))
        refine ⟨(100 - (i + 1), 0, 0), lx1 (by omega), rfl, k, i + 1, L0, u, v, rfl, hcl, hZ, hk, by omega, hL0, hcm, hL, hV.fs hf1 (by decide), hWe.fs hf1 (by decide), hw.fs hf1 (by decide), hf.tr hf1 (by decide) (by decide), rfl, rfl, fun p hp hpb => ?_, M, hM, by simpa [sw_at] using e10, hMb⟩
        obtain ⟨m1, m2, m3, m4, m5⟩ := hq p hp hpb
        by_cases e : p = j
        · subst e
          rw [if_pos (by omega), if_pos (by omega), if_pos (by omega), ← hT, ← hQ, ← hP]
          simpa [sw_at] using ⟨m1, m2⟩
        · have e2 : ¬ cw B p = i := fun z => e (fb_ct_inj' hpb hb (z.trans hji.symm))
          have e3 : ¬ ab_on a p = ab_on a j := by
            intro z
            have z2 := (ab_on_spec hp).2
            rw [z, (ab_on_spec hj).2] at z2
            exact e z2.symm
          have e4 : (cw B p < i + 1) = (cw B p < i) := propext ⟨fun _ => by omega, fun _ => by omega⟩
          simp only [Nat.reduceAdd, e4]
          simpa [sw_at, e, e3] using ⟨m1, m2, m3, m4, m5⟩
      obtain ⟨s1, -, s3⟩ := sm_s (a := a) (te := te) (k := k) (j := j)
      obtain ⟨-, s2, -⟩ := sm_s (a := a) (te := te) (k := k) (j := ab_on a j)
      rw [(ab_on_spec hj).2] at s2
      refine ⟨fun q => by omega, fun _ => ⟨fun q => ⟨hV, hWe, j, 1, (sm a te k).1 j, (sm a te k).2.1 (ab_on a j), (sm a te k).2.2.2.1 j, a 4 k - (sm a te k).1 j, hj, rfl, by omega, rfl, k3, b1, k5, b5, k4, by omega, k1, by omega, fun _ => ?_, fun _ => ?_, fun z => absurd z (by decide), fun z => absurd z (by decide)⟩, fun q => ⟨hV, hWe, j, 0, (sm a te k).1 j, (sm a te k).2.1 (ab_on a j), (sm a te k).2.2.2.1 j, a 4 k - (sm a te k).1 j, hj, rfl, by omega, rfl, k3, b1, k5, b5, k4, by omega, k1, by omega, fun z => absurd rfl z, fun z => absurd rfl z, fun _ q2 => ?_, fun _ q2 => ?_⟩⟩⟩
      · rw [hMj] at q
        have := (sm_laid (show sm_lay a te (a 4 k) (sm a te k) j = true from q)).1
        exact this
      · rw [hMj] at q
        rw [if_pos q] at s1 s2 s3
        exact step _ _ _ _ s1.symm s3.symm s2.symm rfl
      · rw [hMj] at q
        rw [if_neg q] at s1 s2 s3
        rw [if_pos q2] at s1
        refine step _ _ _ _ s1.symm s3.symm s2.symm ?_
        rw [sw_same (c := 35) (by simpa [sw_at] using k4), sw_same (c := 33) (by simpa [sw_at] using k5)]
      · rw [hMj] at q
        rw [if_neg q] at s1 s2 s3
        rw [if_neg q2] at s1
        refine step _ _ _ _ s1.symm s3.symm s2.symm ?_
        rw [sw_same k3, sw_same (c := 35) (by simpa using k4), sw_same (c := 33) k5]
    · simp (disch := omega) only [b_Co_pass_184, b_Co_pass_147, b_Co_pass_145, b_Co_pass_139, b_Co_pass_126, b_Co_pass_115, b_Co_pass_81, b_Co_pass_73, b_Co_pass_71, b_Co_pass_20, b_Co_pass_12, b_Co_pass_0, e_al0, e_il3, e_il4, e_il5, e_il2, e_il1, e_is3i, e_is3r, e_is3n, e_is4i, e_is4r, e_is4n, e_is5i, e_is5r, e_is5n, e_is2i, e_is2r, e_is2n, e_inc3i, e_inc3r, e_inc3n, e_c, e_i2, e_dup2, e_b1, e_b2, e_gi, e_gr, e_pi, e_ald, e_ast, e_max, e_vr, e_dupi, e_dupr, e_cs2, e_cv3, e_hd, e_c10, e_c1i, e_c1r, e_sh0, e_sh1, e_sh2, e_sh3, e_sh4, e_tls, e_tln, e_tl0, e_tl1, cl_1, cl_10, ln_10, cl_29, cl_30, ln_30, cl_32, ln_32, cl_34, ln_34, cl_36, ln_36, tg_1_6, tg_29_0, tg_29_2, tg_29_4, tg_29_6, tg_29_8, q_R_has, q_Co_isLaidOn, q_Co_settle, Nat.reduceAdd, true_and, and_true, true_implies, not_true_eq_false, false_implies, not_false_eq_true, imp_self, forall_const, List.append_nil, ra_I, ra_J, ra_pad, true_or, or_true, Nat.reduceEqDiff, ra_bz, eq_self, if_true, if_false, false_and, and_false, Nat.zero_le, List.cons_append, List.nil_append, Nat.reduceLT, Nat.reduceLeDiff, Nat.reduceMul, Nat.reduceSub, n_0, n_1, n_2, n_3, n_4, n_5, n_6, n_7, n_8, n_9, n_10, n_12, n_40, n_48, n_57, n_59, n_72, n_99, n_102, n_103, n_107, n_108, n_192, n_255, n_256, n_999, n_1000, n_104, nI_add, pk_mul, n_cl, n_inT, n_le, n_lt, n_eq, n_m1, n_m1', n_lem1, n_m1le, n_ltm1, n_m1lt, n_lepred, n_shl, fa_or, hw.1]
      have all : ∀ p, p < ab_hc a → B.testBit p = true → cw B p < i := by
        intro p hp hpb
        have := fb_ct_lt' (p := fun i => B.testBit i) hp hpb
        show fb_ct _ p < i
        unfold cw at hlt
        omega
      refine ⟨fun _ => hZ σ ⟨fun p hp hpb => ?_, M, hM, e10, hMb⟩ hf, fun q => by omega⟩
      obtain ⟨d1, d2, -⟩ := hcm.1 p hp hpb
      obtain ⟨m1, m2, m3, m4, -⟩ := hq p hp hpb
      have how := ab_ow_lt hp
      have hob := (hcl p hp hpb).2
      obtain ⟨-, -, -, -, m5⟩ := hq _ how hob
      rw [if_pos (all p hp hpb)] at m3 m4
      rw [if_pos (all _ how hob), ab_on_ow hp] at m5
      simp only [Nat.reduceAdd] at d1 ⊢
      refine ⟨?_, d2, m3, m5, m2, m4⟩
      rw [← d1]
      exact hf 31 p (by decide) (by simp)
