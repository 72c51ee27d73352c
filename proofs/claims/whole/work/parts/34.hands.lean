/-! many hands -/
def hn (a : Ab) (t : Nat) : Nat := fb_ct (fun k => decide (t < a 4 k)) (a 3 0)
theorem hn_le (a : Ab) (t : Nat) : hn a t ≤ a 3 0 := fb_ct_le _ _
def sp_N_stronger (a : Ab) : ra_Sp := ra_f1 82 (fun x σ Z => rn_R a σ ∧ vp_in x 100 ∧ Z (some (.int (nI (hn a x.toNatClampNeg)))) σ)
theorem q_N_stronger {a : Ab} {oo : Nat} {x : Int32} {σ : ra_St} {Z : ra_R} : sp_N_stronger a [.ref oo, .int x] σ Z = (oo = 82 ∧ (rn_R a σ ∧ vp_in x 100 ∧ Z (some (.int (nI (hn a x.toNatClampNeg)))) σ)) := rfl
def I_N_stronger (a : Ab) (Z : ra_R) (as : List Value) (σ0 : ra_St) (t : Nat) (μ : ra_M) : ra_K := fun L S σ => S = [] ∧ σ = σ0 ∧ ∃ x k : Nat, as = [.ref 82, .int (nI x)] ∧ x < 100 ∧ k ≤ a 3 0 ∧ μ = (a 3 0 - k, 0, 0) ∧ L = [.ref 82, .int (nI x), .int (nI (fb_ct (fun k => decide (x < a 4 k)) k)), .int (nI k)]
theorem k_N_stronger {l : Launch} {X : ra_X} {a : Ab} (hW : ab_W a) : ra_MOK l X mi_N_stronger (sp_N_stronger a) := by
  have hr12 := hW.2.2.2.2.1
  refine g_N_stronger (sp_N_stronger a) (I_N_stronger a) ?_ ?_
  · intro as σ Z _ _ h
    obtain ⟨x, rfl, hR, hx, hZ⟩ := x_f1 h
    obtain ⟨x, hx2, rfl⟩ := vp_in_of hx (by decide)
    simp only [b_N_stronger_36, b_N_stronger_28, b_N_stronger_27, b_N_stronger_23, b_N_stronger_12, b_N_stronger_4, b_N_stronger_0, e_il2, e_al0, e_il3, e_il1, e_is2i, e_is2r, e_is2n, e_is3i, e_is3r, e_is3n, e_inc3i, e_inc3r, e_inc3n, e_c, e_i2, e_b2, e_gi, e_gr, e_ald, e_ir, cl_82, cl_89, ln_89, tg_82_8, Nat.reduceAdd, true_and, and_true, true_implies, not_true_eq_false, false_implies, not_false_eq_true, imp_self, forall_const, List.append_nil, ra_I, ra_J, ra_pad, true_or, or_true, Nat.reduceEqDiff, ra_bz, eq_self, if_true, if_false, false_and, and_false, Nat.zero_le, List.cons_append, List.nil_append, Nat.reduceLT, Nat.reduceLeDiff, Nat.reduceMul, Nat.reduceSub]
    exact ⟨_, rfl, rfl, x, 0, rfl, hx2, by omega, rfl, rfl⟩
  · intro as σ0 Z h0 μ L S σ hI
    obtain ⟨rfl, rfl, x, k, rfl, hx, hk, rfl, rfl⟩ := hI
    obtain ⟨_, e, hR, -, hZ⟩ := x_f1 h0
    cases e
    rw [n_cl (by omega)] at hZ
    by_cases hlt : k < a 3 0
    · have h9 := hW.2.2.2.2.2.1 k
      simp (disch := omega) only [b_N_stronger_36, b_N_stronger_28, b_N_stronger_27, b_N_stronger_23, b_N_stronger_12, b_N_stronger_4, b_N_stronger_0, e_il2, e_al0, e_il3, e_il1, e_is2i, e_is2r, e_is2n, e_is3i, e_is3r, e_is3n, e_inc3i, e_inc3r, e_inc3n, e_c, e_i2, e_b2, e_gi, e_gr, e_ald, e_ir, cl_82, cl_89, ln_89, tg_82_8, Nat.reduceAdd, true_and, and_true, true_implies, not_true_eq_false, false_implies, not_false_eq_true, imp_self, forall_const, List.append_nil, ra_I, ra_J, ra_pad, true_or, or_true, Nat.reduceEqDiff, ra_bz, eq_self, if_true, if_false, false_and, and_false, Nat.zero_le, List.cons_append, List.nil_append, Nat.reduceLT, Nat.reduceLeDiff, Nat.reduceMul, Nat.reduceSub, n_0, n_1, n_2, n_3, n_4, n_5, n_6, n_7, n_8, n_9, n_10, n_12, n_40, n_48, n_57, n_59, n_72, n_99, n_102, n_103, n_107, n_108, n_192, n_255, n_256, n_999, n_1000, n_104, nI_add, pk_mul, n_cl, n_inT, n_le, n_lt, n_eq, n_m1, n_m1', n_lem1, n_m1le, n_ltm1, n_m1lt, n_lepred, n_shl, fa_or, hR.2.1, hR.2.2.1 k hlt]
      refine ⟨fun q => by omega, fun q => ⟨fun q2 => ⟨(a 3 0 - (k + 1), 0, 0), lx1 (by omega), rfl, rfl, x, k + 1, rfl, hx, by omega, rfl, ?_⟩, fun q2 => ⟨(a 3 0 - (k + 1), 0, 0), lx1 (by omega), rfl, rfl, x, k + 1, rfl, hx, by omega, rfl, ?_⟩⟩⟩
      · rw [fb_ct_succ, decide_eq_false (show ¬ x < a 4 k by omega)]
        rfl
      · rw [fb_ct_succ, decide_eq_true (show x < a 4 k by omega)]
        rfl
    · simp (disch := omega) only [b_N_stronger_36, b_N_stronger_28, b_N_stronger_27, b_N_stronger_23, b_N_stronger_4, b_N_stronger_0, e_il2, e_al0, e_il3, e_il1, e_is2i, e_is2r, e_is2n, e_is3i, e_is3r, e_is3n, e_inc3i, e_inc3r, e_inc3n, e_c, e_i2, e_b2, e_gi, e_gr, e_ald, e_ir, cl_82, cl_89, ln_89, tg_82_8, Nat.reduceAdd, true_and, and_true, true_implies, not_true_eq_false, false_implies, not_false_eq_true, imp_self, forall_const, List.append_nil, ra_I, ra_J, ra_pad, true_or, or_true, Nat.reduceEqDiff, ra_bz, eq_self, if_true, if_false, false_and, and_false, Nat.zero_le, List.cons_append, List.nil_append, Nat.reduceLT, Nat.reduceLeDiff, Nat.reduceMul, Nat.reduceSub, n_0, n_1, n_2, n_3, n_4, n_5, n_6, n_7, n_8, n_9, n_10, n_12, n_40, n_48, n_57, n_59, n_72, n_99, n_102, n_103, n_107, n_108, n_192, n_255, n_256, n_999, n_1000, n_104, nI_add, pk_mul, n_cl, n_inT, n_le, n_lt, n_eq, n_m1, n_m1', n_lem1, n_m1le, n_ltm1, n_m1lt, n_lepred, n_shl, fa_or, hR.2.1]
      refine ⟨fun q => ?_, fun q => by omega⟩
      rw [show k = a 3 0 by omega]
      exact hZ
def hg (a : Ab) (t : Nat) : Nat := if t < 9 then hn a t else 0
def hsc (a : Ab) (T : Nat → Nat) : Nat → Nat × Nat
  | 0 => (0, 0)
  | h + 1 => if (hsc a T h).2 < hg a (T h) then (h, hg a (T h)) else hsc a T h
theorem hg_le (a : Ab) (t : Nat) : hg a t ≤ a 3 0 := by
  unfold hg
  split
  · exact hn_le a t
  · omega
theorem hsc_ok {a : Ab} {T : Nat → Nat} : ∀ n, (hsc a T n).2 ≤ a 3 0 ∧ ((hsc a T n).2 ≠ 0 → (hsc a T n).1 < n ∧ T (hsc a T n).1 < 9)
  | 0 => ⟨Nat.zero_le _, fun h => absurd rfl h⟩
  | h + 1 => by
    obtain ⟨h1, h2⟩ := hsc_ok (a := a) (T := T) h
    rw [hsc]
    split
    · next q =>
      refine ⟨hg_le _ _, fun _ => ⟨Nat.lt_succ_self h, ?_⟩⟩
      show T h < 9
      unfold hg at q
      split at q
      · assumption
      · omega
    · exact ⟨h1, fun q => ⟨by have := (h2 q).1; omega, (h2 q).2⟩⟩
def hT (a : Ab) : Nat → Nat → Nat
  | 0 => ab_tl a
  | k + 1 => fun h => if (hsc a (hT a k) (ab_hc a)).2 ≠ 0 ∧ h = (hsc a (hT a k) (ab_hc a)).1 then hT a k h + 1 else hT a k h
theorem hT_s (a : Ab) (k h : Nat) : hT a (k + 1) h = if (hsc a (hT a k) (ab_hc a)).2 ≠ 0 ∧ h = (hsc a (hT a k) (ab_hc a)).1 then hT a k h + 1 else hT a k h := rfl
theorem hsc_y {a : Ab} {T : Nat → Nat} {h : Nat} (q : (hsc a T h).2 < hg a (T h)) : hsc a T (h + 1) = (h, hg a (T h)) := by
  rw [hsc, if_pos q]
theorem hT_9 {a : Ab} : ∀ k {h}, h < ab_hc a → hT a k h ≤ 9
  | 0, h, hh => (ab_tl_9 hh).1
  | k + 1, h, hh => by
    have h1 := hT_9 k hh
    show (if (hsc a (hT a k) (ab_hc a)).2 ≠ 0 ∧ h = (hsc a (hT a k) (ab_hc a)).1 then hT a k h + 1 else hT a k h) ≤ 9
    split
    · next q =>
      have := ((hsc_ok (a := a) (T := hT a k) (ab_hc a)).2 q.1).2
      rw [← q.2] at this
      omega
    · exact h1
def hQ (a : Ab) (T : Nat → Nat) (h : Nat) : Nat := fb_sm (fun k => a 4 k - T h) (a 3 0)
def hS (a : Ab) (T : Nat → Nat) : Nat := fb_sm (hQ a T) (ab_hc a)
theorem fb_sm_bd {f : Nat → Nat} {m : Nat} : ∀ n, (∀ k, k < n → f k ≤ m) → fb_sm f n ≤ m * n
  | 0, _ => Nat.zero_le _
  | n + 1, h => by
    have h1 := fb_sm_bd n (fun k hk => h k (by omega))
    have h2 := h n (by omega)
    rw [fb_sm_succ, Nat.mul_succ]
    omega
theorem hQ_le {a : Ab} (hW : ab_W a) (T : Nat → Nat) (h n : Nat) (hn : n ≤ a 3 0) : fb_sm (fun k => a 4 k - T h) n ≤ 108 := by
  have := fb_sm_bd (f := fun k => a 4 k - T h) (m := 9) n (fun k _ => by have := hW.2.2.2.2.2.1 k; show a 4 k - T h ≤ 9; omega)
  have h2 := hW.2.2.2.2.1
  omega
theorem hS_le {a : Ab} (hW : ab_W a) (T : Nat → Nat) (n : Nat) (hn : n ≤ 8) : fb_sm (hQ a T) n ≤ 864 := by
  have := fb_sm_bd (f := hQ a T) (m := 108) n (fun h _ => hQ_le hW T h _ (Nat.le_refl _))
  omega
def an_hd (a : Ab) (k x : Int32) : Int32 := if x = -1 then nI (hS a (hT a k.toNatClampNeg)) else nI (hT a k.toNatClampNeg x.toNatClampNeg)
def sp_N_handsOf (a : Ab) : ra_Sp := ra_f2 82 (fun k x σ Z => rn_R a σ ∧ an_in k 72 ∧ (x = -1 ∨ an_hs a x) ∧ ∀ σ', rn_P a σ' → ra_fr rn_scr σ σ' → Z (some (.int (an_hd a k x))) σ')
theorem q_N_handsOf {a : Ab} {oo : Nat} {k x : Int32} {σ : ra_St} {Z : ra_R} : sp_N_handsOf a [.ref oo, .int k, .int x] σ Z = (oo = 82 ∧ (rn_R a σ ∧ an_in k 72 ∧ (x = -1 ∨ an_hs a x) ∧ ∀ σ', rn_P a σ' → ra_fr rn_scr σ σ' → Z (some (.int (an_hd a k x))) σ')) := rfl
def I_N_handsOf (a : Ab) (Z : ra_R) (as : List Value) (σ0 : ra_St) (t : Nat) (μ : ra_M) : ra_K := fun L S σ => S = [] ∧ ∃ (x : Int32) (m k h s : Nat) (u4 u5 u6 u7 : Value), as = [.ref 82, .int (nI m), .int x] ∧ m ≤ 72 ∧ rn_R a σ ∧ rn_P a σ ∧ ra_fr rn_scr σ0 σ ∧
  match t with
  | 6 => h ≤ ab_hc a ∧ (∀ j, j < h → σ 93 j = nI (ab_tl a j)) ∧ μ = (300 + ab_hc a - h, 0, 0) ∧ L = [.ref 82, .int (nI m), .int x, .int (nI h), u4, u5, u6, u7]
  | 34 => k ≤ m ∧ (∀ j, j < ab_hc a → σ 93 j = nI (hT a k j)) ∧ μ = (200 + m - k, 1, 0) ∧ L = [.ref 82, .int (nI m), .int x, .int (nI k), u4, u5, u6, u7]
  | 48 => k < m ∧ h ≤ ab_hc a ∧ (∀ j, j < ab_hc a → σ 93 j = nI (hT a k j)) ∧ μ = (200 + m - k, 0, ab_hc a - h) ∧ L = [.ref 82, .int (nI m), .int x, .int (nI k), .int (if (hsc a (hT a k) h).2 = 0 then -1 else nI (hsc a (hT a k) h).1), .int (nI (hsc a (hT a k) h).2), .int (nI h), u7]
  | 152 => h ≤ ab_hc a ∧ (∀ j, j < ab_hc a → σ 93 j = nI (hT a m j)) ∧ μ = (ab_hc a - h, 1, 0) ∧ L = [.ref 82, .int (nI m), .int x, .int (nI (fb_sm (hQ a (hT a m)) h)), .int (nI h), u5, u6, u7]
  | _ => h < ab_hc a ∧ k ≤ a 3 0 ∧ (∀ j, j < ab_hc a → σ 93 j = nI (hT a m j)) ∧ μ = (ab_hc a - h, 0, a 3 0 - k) ∧ L = [.ref 82, .int (nI m), .int x, .int (nI (fb_sm (hQ a (hT a m)) h + fb_sm (fun k => a 4 k - hT a m h) k)), .int (nI h), .int (nI k), u6, u7]
theorem k_N_handsOf {l : Launch} {X : ra_X} {a : Ab} (hW : ab_W a) : ra_MOK l X mi_N_handsOf (sp_N_handsOf a) := by
  have h8 := ab_hc_8 a
  have hr12 := hW.2.2.2.2.1
  refine g_N_handsOf (k_N_reads hW) (k_N_stronger hW) (sp_N_handsOf a) (I_N_handsOf a) ?_ ?_ ?_ ?_ ?_ ?_
  · intro as σ Z _ _ h
    obtain ⟨k, x, rfl, hR, hk, hx, hZ⟩ := x_f2 h
    obtain ⟨m, hm, rfl⟩ := an_in_of hk (by decide)
    simp only [b_N_handsOf_239, b_N_handsOf_233, b_N_handsOf_229, b_N_handsOf_224, b_N_handsOf_218, b_N_handsOf_210, b_N_handsOf_209, b_N_handsOf_191, b_N_handsOf_173, b_N_handsOf_164, b_N_handsOf_161, b_N_handsOf_152, b_N_handsOf_147, b_N_handsOf_141, b_N_handsOf_130, b_N_handsOf_124, b_N_handsOf_116, b_N_handsOf_114, b_N_handsOf_109, b_N_handsOf_100, b_N_handsOf_98, b_N_handsOf_93, b_N_handsOf_84, b_N_handsOf_83, b_N_handsOf_69, b_N_handsOf_57, b_N_handsOf_48, b_N_handsOf_39, b_N_handsOf_34, b_N_handsOf_32, b_N_handsOf_14, b_N_handsOf_6, b_N_handsOf_0, e_al0, e_il2, e_il3, e_il5, e_il4, e_il7, e_il6, e_il1, e_is3i, e_is3r, e_is3n, e_is5i, e_is5r, e_is5n, e_is4i, e_is4r, e_is4n, e_is7i, e_is7r, e_is7n, e_is6i, e_is6r, e_is6n, e_inc4i, e_inc4r, e_inc4n, e_inc5i, e_inc5r, e_inc5n, e_inc3i, e_inc3r, e_inc3n, e_inc6i, e_inc6r, e_inc6n, e_c, e_i2, e_dup2, e_b2, e_gi, e_gr, e_ald, e_ast, e_ir, e_cv2, e_hd, e_cv1, e_c10, e_c1i, e_c1r, e_sh0, e_sh1, e_sh2, e_sh3, e_sh4, e_tls, e_tln, e_tl0, e_tl1, cl_82, cl_85, ln_85, cl_89, ln_89, cl_93, ln_93, tg_82_3, tg_82_8, tg_82_12, q_N_reads, q_N_stronger, Nat.reduceAdd, true_and, and_true, true_implies, not_true_eq_false, false_implies, not_false_eq_true, imp_self, forall_const, List.append_nil, ra_I, ra_J, ra_pad, true_or, or_true, Nat.reduceEqDiff, ra_bz, eq_self, if_true, if_false, false_and, and_false, Nat.zero_le, List.cons_append, List.nil_append, Nat.reduceLT, Nat.reduceLeDiff, Nat.reduceMul, Nat.reduceSub]
    exact ⟨hR.1, fun σ1 hP hf => ⟨_, rfl, x, m, 0, 0, 0, _, _, _, _, rfl, hm, hR.fr hf (by decide), hP, hf.mono (by decide), by omega, fun j hj => by omega, rfl, rfl⟩⟩
  · intro as σ0 Z h0 μ L S σ hI
    obtain ⟨rfl, x, m, k, h, s, u4, u5, u6, u7, rfl, hm, hR, hP, hf, hh, hq, rfl, rfl⟩ := hI
    by_cases hlt : h < ab_hc a
    · simp (disch := omega) only [b_N_handsOf_239, b_N_handsOf_233, b_N_handsOf_229, b_N_handsOf_224, b_N_handsOf_218, b_N_handsOf_210, b_N_handsOf_209, b_N_handsOf_191, b_N_handsOf_173, b_N_handsOf_164, b_N_handsOf_161, b_N_handsOf_152, b_N_handsOf_147, b_N_handsOf_141, b_N_handsOf_130, b_N_handsOf_124, b_N_handsOf_116, b_N_handsOf_114, b_N_handsOf_109, b_N_handsOf_100, b_N_handsOf_98, b_N_handsOf_93, b_N_handsOf_84, b_N_handsOf_83, b_N_handsOf_69, b_N_handsOf_57, b_N_handsOf_48, b_N_handsOf_39, b_N_handsOf_34, b_N_handsOf_32, b_N_handsOf_14, b_N_handsOf_6, b_N_handsOf_0, e_al0, e_il2, e_il3, e_il5, e_il4, e_il7, e_il6, e_il1, e_is3i, e_is3r, e_is3n, e_is5i, e_is5r, e_is5n, e_is4i, e_is4r, e_is4n, e_is7i, e_is7r, e_is7n, e_is6i, e_is6r, e_is6n, e_inc4i, e_inc4r, e_inc4n, e_inc5i, e_inc5r, e_inc5n, e_inc3i, e_inc3r, e_inc3n, e_inc6i, e_inc6r, e_inc6n, e_c, e_i2, e_dup2, e_b2, e_gi, e_gr, e_ald, e_ast, e_ir, e_cv2, e_hd, e_cv1, e_c10, e_c1i, e_c1r, e_sh0, e_sh1, e_sh2, e_sh3, e_sh4, e_tls, e_tln, e_tl0, e_tl1, cl_82, cl_85, ln_85, cl_89, ln_89, cl_93, ln_93, tg_82_3, tg_82_8, tg_82_12, q_N_reads, q_N_stronger, Nat.reduceAdd, true_and, and_true, true_implies, not_true_eq_false, false_implies, not_false_eq_true, imp_self, forall_const, List.append_nil, ra_I, ra_J, ra_pad, true_or, or_true, Nat.reduceEqDiff, ra_bz, eq_self, if_true, if_false, false_and, and_false, Nat.zero_le, List.cons_append, List.nil_append, Nat.reduceLT, Nat.reduceLeDiff, Nat.reduceMul, Nat.reduceSub, n_0, n_1, n_2, n_3, n_4, n_5, n_6, n_7, n_8, n_9, n_10, n_12, n_40, n_48, n_57, n_59, n_72, n_99, n_102, n_103, n_107, n_108, n_192, n_255, n_256, n_999, n_1000, n_104, nI_add, pk_mul, n_cl, n_inT, n_le, n_lt, n_eq, n_m1, n_m1', n_lem1, n_m1le, n_ltm1, n_m1lt, n_lepred, n_shl, fa_or, hP.1.1, (hP.1.2 h hlt).1]
      have hf1 : ra_fr [93] σ (ra_sw σ 93 h (nI (ab_tl a h))) := ra_fr.rf.sw (by decide) (by decide)
      refine ⟨fun q => by omega, fun q => ⟨(300 + ab_hc a - (h + 1), 0, 0), lx1 (by omega), rfl, x, m, 0, h + 1, 0, u4, u5, u6, u7, rfl, hm, hR.fr hf1 (by decide), hP.fr hf1 (by simp [sw_at]) (by decide), hf.tr hf1 (by decide), by omega, fun j hj => ?_, rfl, rfl⟩⟩
      rw [sw_at, if_pos rfl]
      split
      · next e => rw [e]
      · exact hq j (by omega)
    · simp (disch := omega) only [b_N_handsOf_239, b_N_handsOf_233, b_N_handsOf_229, b_N_handsOf_224, b_N_handsOf_218, b_N_handsOf_210, b_N_handsOf_209, b_N_handsOf_191, b_N_handsOf_173, b_N_handsOf_164, b_N_handsOf_161, b_N_handsOf_152, b_N_handsOf_147, b_N_handsOf_141, b_N_handsOf_130, b_N_handsOf_124, b_N_handsOf_116, b_N_handsOf_114, b_N_handsOf_109, b_N_handsOf_100, b_N_handsOf_98, b_N_handsOf_93, b_N_handsOf_84, b_N_handsOf_83, b_N_handsOf_69, b_N_handsOf_57, b_N_handsOf_48, b_N_handsOf_39, b_N_handsOf_34, b_N_handsOf_32, b_N_handsOf_6, b_N_handsOf_0, e_al0, e_il2, e_il3, e_il5, e_il4, e_il7, e_il6, e_il1, e_is3i, e_is3r, e_is3n, e_is5i, e_is5r, e_is5n, e_is4i, e_is4r, e_is4n, e_is7i, e_is7r, e_is7n, e_is6i, e_is6r, e_is6n, e_inc4i, e_inc4r, e_inc4n, e_inc5i, e_inc5r, e_inc5n, e_inc3i, e_inc3r, e_inc3n, e_inc6i, e_inc6r, e_inc6n, e_c, e_i2, e_dup2, e_b2, e_gi, e_gr, e_ald, e_ast, e_ir, e_cv2, e_hd, e_cv1, e_c10, e_c1i, e_c1r, e_sh0, e_sh1, e_sh2, e_sh3, e_sh4, e_tls, e_tln, e_tl0, e_tl1, cl_82, cl_85, ln_85, cl_89, ln_89, cl_93, ln_93, tg_82_3, tg_82_8, tg_82_12, q_N_reads, q_N_stronger, Nat.reduceAdd, true_and, and_true, true_implies, not_true_eq_false, false_implies, not_false_eq_true, imp_self, forall_const, List.append_nil, ra_I, ra_J, ra_pad, true_or, or_true, Nat.reduceEqDiff, ra_bz, eq_self, if_true, if_false, false_and, and_false, Nat.zero_le, List.cons_append, List.nil_append, Nat.reduceLT, Nat.reduceLeDiff, Nat.reduceMul, Nat.reduceSub, n_0, n_1, n_2, n_3, n_4, n_5, n_6, n_7, n_8, n_9, n_10, n_12, n_40, n_48, n_57, n_59, n_72, n_99, n_102, n_103, n_107, n_108, n_192, n_255, n_256, n_999, n_1000, n_104, nI_add, pk_mul, n_cl, n_inT, n_le, n_lt, n_eq, n_m1, n_m1', n_lem1, n_m1le, n_ltm1, n_m1lt, n_lepred, n_shl, fa_or, hP.1.1]
      exact ⟨fun q => ⟨(200 + m - 0, 1, 0), lx1 (by omega), rfl, x, m, 0, 0, 0, u4, u5, u6, u7, rfl, hm, hR, hP, hf, by omega, fun j hj => hq j (by omega), rfl, rfl⟩, fun q => by omega⟩
  · intro as σ0 Z h0 μ L S σ hI
    obtain ⟨rfl, x, m, k, h, s, u4, u5, u6, u7, rfl, hm, hR, hP, hf, hk, hq, rfl, rfl⟩ := hI
    simp (disch := omega) only [b_N_handsOf_239, b_N_handsOf_233, b_N_handsOf_229, b_N_handsOf_224, b_N_handsOf_218, b_N_handsOf_210, b_N_handsOf_209, b_N_handsOf_191, b_N_handsOf_173, b_N_handsOf_164, b_N_handsOf_161, b_N_handsOf_152, b_N_handsOf_147, b_N_handsOf_141, b_N_handsOf_130, b_N_handsOf_124, b_N_handsOf_116, b_N_handsOf_114, b_N_handsOf_109, b_N_handsOf_100, b_N_handsOf_98, b_N_handsOf_93, b_N_handsOf_84, b_N_handsOf_83, b_N_handsOf_69, b_N_handsOf_57, b_N_handsOf_48, b_N_handsOf_39, b_N_handsOf_34, b_N_handsOf_32, b_N_handsOf_14, b_N_handsOf_6, b_N_handsOf_0, e_al0, e_il2, e_il3, e_il5, e_il4, e_il7, e_il6, e_il1, e_is3i, e_is3r, e_is3n, e_is5i, e_is5r, e_is5n, e_is4i, e_is4r, e_is4n, e_is7i, e_is7r, e_is7n, e_is6i, e_is6r, e_is6n, e_inc4i, e_inc4r, e_inc4n, e_inc5i, e_inc5r, e_inc5n, e_inc3i, e_inc3r, e_inc3n, e_inc6i, e_inc6r, e_inc6n, e_c, e_i2, e_dup2, e_b2, e_gi, e_gr, e_ald, e_ast, e_ir, e_cv2, e_hd, e_cv1, e_c10, e_c1i, e_c1r, e_sh0, e_sh1, e_sh2, e_sh3, e_sh4, e_tls, e_tln, e_tl0, e_tl1, cl_82, cl_85, ln_85, cl_89, ln_89, cl_93, ln_93, tg_82_3, tg_82_8, tg_82_12, q_N_reads, q_N_stronger, Nat.reduceAdd, true_and, and_true, true_implies, not_true_eq_false, false_implies, not_false_eq_true, imp_self, forall_const, List.append_nil, ra_I, ra_J, ra_pad, true_or, or_true, Nat.reduceEqDiff, ra_bz, eq_self, if_true, if_false, false_and, and_false, Nat.zero_le, List.cons_append, List.nil_append, Nat.reduceLT, Nat.reduceLeDiff, Nat.reduceMul, Nat.reduceSub, n_0, n_1, n_2, n_3, n_4, n_5, n_6, n_7, n_8, n_9, n_10, n_12, n_40, n_48, n_57, n_59, n_72, n_99, n_102, n_103, n_107, n_108, n_192, n_255, n_256, n_999, n_1000, n_104, nI_add, pk_mul, n_cl, n_inT, n_le, n_lt, n_eq, n_m1, n_m1', n_lem1, n_m1le, n_ltm1, n_m1lt, n_lepred, n_shl, fa_or]
    refine ⟨fun q => ⟨(ab_hc a - 0, 1, 0), lx1 (by omega), rfl, x, m, 0, 0, 0, u4, u5, u6, u7, rfl, hm, hR, hP, hf, by omega, ?_, rfl, rfl⟩, fun q => ⟨(200 + m - k, 0, ab_hc a - 0), lx2 (by omega), rfl, x, m, k, 0, 0, u4, u5, u6, u7, rfl, hm, hR, hP, hf, by omega, by omega, hq, rfl, rfl⟩⟩
    rw [show m = k by omega]
    exact hq
  · intro as σ0 Z h0 μ L S σ hI
    obtain ⟨rfl, x, m, k, h, s, u4, u5, u6, u7, rfl, hm, hR, hP, hf, hk, hh, hq, rfl, rfl⟩ := hI
    obtain ⟨b1, b2⟩ := hsc_ok (a := a) (T := hT a k) h
    by_cases hlt : h < ab_hc a
    · have t9 := hT_9 k hlt
      have gle := hn_le a (hT a k h)
      simp (disch := omega) only [b_N_handsOf_239, b_N_handsOf_233, b_N_handsOf_229, b_N_handsOf_224, b_N_handsOf_218, b_N_handsOf_210, b_N_handsOf_209, b_N_handsOf_191, b_N_handsOf_173, b_N_handsOf_164, b_N_handsOf_161, b_N_handsOf_152, b_N_handsOf_147, b_N_handsOf_130, b_N_handsOf_116, b_N_handsOf_114, b_N_handsOf_109, b_N_handsOf_100, b_N_handsOf_98, b_N_handsOf_93, b_N_handsOf_84, b_N_handsOf_83, b_N_handsOf_69, b_N_handsOf_57, b_N_handsOf_48, b_N_handsOf_39, b_N_handsOf_34, b_N_handsOf_32, b_N_handsOf_14, b_N_handsOf_6, b_N_handsOf_0, e_al0, e_il2, e_il3, e_il5, e_il4, e_il7, e_il6, e_il1, e_is3i, e_is3r, e_is3n, e_is5i, e_is5r, e_is5n, e_is4i, e_is4r, e_is4n, e_is7i, e_is7r, e_is7n, e_is6i, e_is6r, e_is6n, e_inc4i, e_inc4r, e_inc4n, e_inc5i, e_inc5r, e_inc5n, e_inc3i, e_inc3r, e_inc3n, e_inc6i, e_inc6r, e_inc6n, e_c, e_i2, e_dup2, e_b2, e_gi, e_gr, e_ald, e_ast, e_ir, e_cv2, e_hd, e_cv1, e_c10, e_c1i, e_c1r, e_sh0, e_sh1, e_sh2, e_sh3, e_sh4, e_tls, e_tln, e_tl0, e_tl1, cl_82, cl_85, ln_85, cl_89, ln_89, cl_93, ln_93, tg_82_3, tg_82_8, tg_82_12, q_N_reads, q_N_stronger, Nat.reduceAdd, true_and, and_true, true_implies, not_true_eq_false, false_implies, not_false_eq_true, imp_self, forall_const, List.append_nil, ra_I, ra_J, ra_pad, true_or, or_true, Nat.reduceEqDiff, ra_bz, eq_self, if_true, if_false, false_and, and_false, Nat.zero_le, List.cons_append, List.nil_append, Nat.reduceLT, Nat.reduceLeDiff, Nat.reduceMul, Nat.reduceSub, n_0, n_1, n_2, n_3, n_4, n_5, n_6, n_7, n_8, n_9, n_10, n_12, n_40, n_48, n_57, n_59, n_72, n_99, n_102, n_103, n_107, n_108, n_192, n_255, n_256, n_999, n_1000, n_104, nI_add, pk_mul, n_cl, n_inT, n_le, n_lt, n_eq, n_m1, n_m1', n_lem1, n_m1le, n_ltm1, n_m1lt, n_lepred, n_shl, fa_or, hP.1.1, hq h hlt]
      have stay : ∀ w : Int32, ¬ (hsc a (hT a k) h).2 < hg a (hT a k h) → ∃ μ', ra_lx μ' (200 + m - k, 0, ab_hc a - h) ∧ I_N_handsOf a Z [.ref 82, .int (nI m), .int x] σ0 48 μ' [.ref 82, .int (nI m), .int x, .int (nI k), .int (if (hsc a (hT a k) h).2 = 0 then -nI 1 else nI (hsc a (hT a k) h).1), .int (nI (hsc a (hT a k) h).2), .int (nI (h + 1)), .int w] [] σ := by
        intro w hw
        refine ⟨(200 + m - k, 0, ab_hc a - (h + 1)), lx3 (by omega), rfl, x, m, k, h + 1, 0, u4, u5, u6, .int w, rfl, hm, hR, hP, hf, hk, by omega, hq, rfl, ?_⟩
        rw [hsc, if_neg hw]
        rfl
      refine ⟨fun q => by omega, fun q => ⟨fun q2 => stay _ ?_, fun q2 => ⟨hR, fun q3 => ⟨fun q4 => stay _ ?_, fun q4 => by omega⟩, fun q3 => ⟨fun q4 => by omega, fun q4 => ?_⟩⟩⟩⟩
      · unfold hg
        rw [if_neg (by omega)]
        omega
      · unfold hg
        rw [if_pos (by omega)]
        omega
      · refine ⟨(200 + m - k, 0, ab_hc a - (h + 1)), lx3 (by omega), rfl, x, m, k, h + 1, 0, u4, u5, u6, .int (nI (hn a (hT a k h))), rfl, hm, hR, hP, hf, hk, by omega, hq, rfl, ?_⟩
        have e : hg a (hT a k h) = hn a (hT a k h) := by
          unfold hg
          rw [if_pos (by omega)]
        rw [hsc_y (by omega), e]
        show _ = [_, _, _, _, Value.int (if hn a (hT a k h) = 0 then -1 else nI h), _, _, _]
        rw [if_neg (by omega)]
    · have he : h = ab_hc a := by omega
      subst he
      by_cases h0 : (hsc a (hT a k) (ab_hc a)).2 = 0
      · simp (disch := omega) only [b_N_handsOf_239, b_N_handsOf_233, b_N_handsOf_229, b_N_handsOf_224, b_N_handsOf_218, b_N_handsOf_210, b_N_handsOf_209, b_N_handsOf_191, b_N_handsOf_173, b_N_handsOf_164, b_N_handsOf_161, b_N_handsOf_152, b_N_handsOf_147, b_N_handsOf_141, b_N_handsOf_130, b_N_handsOf_124, b_N_handsOf_116, b_N_handsOf_114, b_N_handsOf_109, b_N_handsOf_100, b_N_handsOf_98, b_N_handsOf_93, b_N_handsOf_84, b_N_handsOf_83, b_N_handsOf_69, b_N_handsOf_48, b_N_handsOf_39, b_N_handsOf_34, b_N_handsOf_32, b_N_handsOf_14, b_N_handsOf_6, b_N_handsOf_0, e_al0, e_il2, e_il3, e_il5, e_il4, e_il7, e_il6, e_il1, e_is3i, e_is3r, e_is3n, e_is5i, e_is5r, e_is5n, e_is4i, e_is4r, e_is4n, e_is7i, e_is7r, e_is7n, e_is6i, e_is6r, e_is6n, e_inc4i, e_inc4r, e_inc4n, e_inc5i, e_inc5r, e_inc5n, e_inc3i, e_inc3r, e_inc3n, e_inc6i, e_inc6r, e_inc6n, e_c, e_i2, e_dup2, e_b2, e_gi, e_gr, e_ald, e_ast, e_ir, e_cv2, e_hd, e_cv1, e_c10, e_c1i, e_c1r, e_sh0, e_sh1, e_sh2, e_sh3, e_sh4, e_tls, e_tln, e_tl0, e_tl1, cl_82, cl_85, ln_85, cl_89, ln_89, cl_93, ln_93, tg_82_3, tg_82_8, tg_82_12, q_N_reads, q_N_stronger, Nat.reduceAdd, true_and, and_true, true_implies, not_true_eq_false, false_implies, not_false_eq_true, imp_self, forall_const, List.append_nil, ra_I, ra_J, ra_pad, true_or, or_true, Nat.reduceEqDiff, ra_bz, eq_self, if_true, if_false, false_and, and_false, Nat.zero_le, List.cons_append, List.nil_append, Nat.reduceLT, Nat.reduceLeDiff, Nat.reduceMul, Nat.reduceSub, n_0, n_1, n_2, n_3, n_4, n_5, n_6, n_7, n_8, n_9, n_10, n_12, n_40, n_48, n_57, n_59, n_72, n_99, n_102, n_103, n_107, n_108, n_192, n_255, n_256, n_999, n_1000, n_104, nI_add, pk_mul, n_cl, n_inT, n_le, n_lt, n_eq, n_m1, n_m1', n_lem1, n_m1le, n_ltm1, n_m1lt, n_lepred, n_shl, fa_or, hP.1.1, if_pos h0]
        refine ⟨fun q => ⟨(200 + m - (k + 1), 1, 0), lx1 (by omega), rfl, x, m, k + 1, 0, 0, _, _, _, u7, rfl, hm, hR, hP, hf, by omega, fun j hj => ?_, rfl, rfl⟩, fun q => by omega⟩
        rw [hT_s, if_neg (fun z => z.1 h0)]
        exact hq j hj
      · obtain ⟨c1, c2⟩ := b2 h0
        have e1 := hq _ c1
        simp (disch := omega) only [b_N_handsOf_239, b_N_handsOf_233, b_N_handsOf_229, b_N_handsOf_224, b_N_handsOf_218, b_N_handsOf_210, b_N_handsOf_209, b_N_handsOf_191, b_N_handsOf_173, b_N_handsOf_164, b_N_handsOf_161, b_N_handsOf_152, b_N_handsOf_147, b_N_handsOf_141, b_N_handsOf_130, b_N_handsOf_124, b_N_handsOf_116, b_N_handsOf_114, b_N_handsOf_109, b_N_handsOf_100, b_N_handsOf_98, b_N_handsOf_93, b_N_handsOf_84, b_N_handsOf_83, b_N_handsOf_69, b_N_handsOf_48, b_N_handsOf_39, b_N_handsOf_34, b_N_handsOf_32, b_N_handsOf_14, b_N_handsOf_6, b_N_handsOf_0, e_al0, e_il2, e_il3, e_il5, e_il4, e_il7, e_il6, e_il1, e_is3i, e_is3r, e_is3n, e_is5i, e_is5r, e_is5n, e_is4i, e_is4r, e_is4n, e_is7i, e_is7r, e_is7n, e_is6i, e_is6r, e_is6n, e_inc4i, e_inc4r, e_inc4n, e_inc5i, e_inc5r, e_inc5n, e_inc3i, e_inc3r, e_inc3n, e_inc6i, e_inc6r, e_inc6n, e_c, e_i2, e_dup2, e_b2, e_gi, e_gr, e_ald, e_ast, e_ir, e_cv2, e_hd, e_cv1, e_c10, e_c1i, e_c1r, e_sh0, e_sh1, e_sh2, e_sh3, e_sh4, e_tls, e_tln, e_tl0, e_tl1, cl_82, cl_85, ln_85, cl_89, ln_89, cl_93, ln_93, tg_82_3, tg_82_8, tg_82_12, q_N_reads, q_N_stronger, Nat.reduceAdd, true_and, and_true, true_implies, not_true_eq_false, false_implies, not_false_eq_true, imp_self, forall_const, List.append_nil, ra_I, ra_J, ra_pad, true_or, or_true, Nat.reduceEqDiff, ra_bz, eq_self, if_true, if_false, false_and, and_false, Nat.zero_le, List.cons_append, List.nil_append, Nat.reduceLT, Nat.reduceLeDiff, Nat.reduceMul, Nat.reduceSub, n_0, n_1, n_2, n_3, n_4, n_5, n_6, n_7, n_8, n_9, n_10, n_12, n_40, n_48, n_57, n_59, n_72, n_99, n_102, n_103, n_107, n_108, n_192, n_255, n_256, n_999, n_1000, n_104, nI_add, pk_mul, n_cl, n_inT, n_le, n_lt, n_eq, n_m1, n_m1', n_lem1, n_m1le, n_ltm1, n_m1lt, n_lepred, n_shl, fa_or, hP.1.1, if_neg h0, e1]
        have hf1 : ra_fr [93] σ (ra_sw σ 93 (hsc a (hT a k) (ab_hc a)).1 (nI (hT a k (hsc a (hT a k) (ab_hc a)).1 + 1))) := ra_fr.rf.sw (by decide) (by decide)
        refine ⟨fun q => ⟨(200 + m - (k + 1), 1, 0), lx1 (by omega), rfl, x, m, k + 1, 0, 0, _, _, _, u7, rfl, hm, hR.fr hf1 (by decide), hP.fr hf1 (by simp [sw_at]) (by decide), hf.tr hf1 (by decide), by omega, fun j hj => ?_, rfl, rfl⟩, fun q => by omega⟩
        rw [hT_s, sw_at, if_pos rfl]
        by_cases e : j = (hsc a (hT a k) (ab_hc a)).1
        · rw [if_pos e, if_pos ⟨h0, e⟩, e]
        · rw [if_neg e, if_neg (fun z => e z.2)]
          exact hq j hj
  · intro as σ0 Z h0 μ L S σ hI
    obtain ⟨rfl, x, m, k, h, s, u4, u5, u6, u7, rfl, hm, hR, hP, hf, hh, hq, rfl, rfl⟩ := hI
    obtain ⟨_, _, e, hR0, -, hx, hZ⟩ := x_f2 h0
    cases e
    have h9 := hZ σ hP hf
    unfold an_hd at h9
    rw [n_cl (by omega)] at h9
    by_cases hlt : h < ab_hc a
    · simp (disch := omega) only [b_N_handsOf_239, b_N_handsOf_233, b_N_handsOf_229, b_N_handsOf_224, b_N_handsOf_210, b_N_handsOf_209, b_N_handsOf_191, b_N_handsOf_173, b_N_handsOf_164, b_N_handsOf_161, b_N_handsOf_152, b_N_handsOf_147, b_N_handsOf_141, b_N_handsOf_130, b_N_handsOf_124, b_N_handsOf_116, b_N_handsOf_114, b_N_handsOf_109, b_N_handsOf_100, b_N_handsOf_98, b_N_handsOf_93, b_N_handsOf_84, b_N_handsOf_83, b_N_handsOf_69, b_N_handsOf_57, b_N_handsOf_48, b_N_handsOf_39, b_N_handsOf_34, b_N_handsOf_32, b_N_handsOf_14, b_N_handsOf_6, b_N_handsOf_0, e_al0, e_il2, e_il3, e_il5, e_il4, e_il7, e_il6, e_il1, e_is3i, e_is3r, e_is3n, e_is5i, e_is5r, e_is5n, e_is4i, e_is4r, e_is4n, e_is7i, e_is7r, e_is7n, e_is6i, e_is6r, e_is6n, e_inc4i, e_inc4r, e_inc4n, e_inc5i, e_inc5r, e_inc5n, e_inc3i, e_inc3r, e_inc3n, e_inc6i, e_inc6r, e_inc6n, e_c, e_i2, e_dup2, e_b2, e_gi, e_gr, e_ald, e_ast, e_ir, e_cv2, e_hd, e_cv1, e_c10, e_c1i, e_c1r, e_sh0, e_sh1, e_sh2, e_sh3, e_sh4, e_tls, e_tln, e_tl0, e_tl1, cl_82, cl_85, ln_85, cl_89, ln_89, cl_93, ln_93, tg_82_3, tg_82_8, tg_82_12, q_N_reads, q_N_stronger, Nat.reduceAdd, true_and, and_true, true_implies, not_true_eq_false, false_implies, not_false_eq_true, imp_self, forall_const, List.append_nil, ra_I, ra_J, ra_pad, true_or, or_true, Nat.reduceEqDiff, ra_bz, eq_self, if_true, if_false, false_and, and_false, Nat.zero_le, List.cons_append, List.nil_append, Nat.reduceLT, Nat.reduceLeDiff, Nat.reduceMul, Nat.reduceSub, n_0, n_1, n_2, n_3, n_4, n_5, n_6, n_7, n_8, n_9, n_10, n_12, n_40, n_48, n_57, n_59, n_72, n_99, n_102, n_103, n_107, n_108, n_192, n_255, n_256, n_999, n_1000, n_104, nI_add, pk_mul, n_cl, n_inT, n_le, n_lt, n_eq, n_m1, n_m1', n_lem1, n_m1le, n_ltm1, n_m1lt, n_lepred, n_shl, fa_or, hP.1.1]
      exact ⟨fun q => by omega, fun q => ⟨(ab_hc a - h, 0, a 3 0 - 0), lx2 (by omega), rfl, x, m, 0, h, 0, u4, u5, u6, u7, rfl, hm, hR, hP, hf, hlt, by omega, hq, rfl, rfl⟩⟩
    · simp (disch := omega) only [b_N_handsOf_239, b_N_handsOf_233, b_N_handsOf_229, b_N_handsOf_224, b_N_handsOf_218, b_N_handsOf_210, b_N_handsOf_209, b_N_handsOf_191, b_N_handsOf_173, b_N_handsOf_164, b_N_handsOf_152, b_N_handsOf_147, b_N_handsOf_141, b_N_handsOf_130, b_N_handsOf_124, b_N_handsOf_116, b_N_handsOf_114, b_N_handsOf_109, b_N_handsOf_100, b_N_handsOf_98, b_N_handsOf_93, b_N_handsOf_84, b_N_handsOf_83, b_N_handsOf_69, b_N_handsOf_57, b_N_handsOf_48, b_N_handsOf_39, b_N_handsOf_34, b_N_handsOf_32, b_N_handsOf_14, b_N_handsOf_6, b_N_handsOf_0, e_al0, e_il2, e_il3, e_il5, e_il4, e_il7, e_il6, e_il1, e_is3i, e_is3r, e_is3n, e_is5i, e_is5r, e_is5n, e_is4i, e_is4r, e_is4n, e_is7i, e_is7r, e_is7n, e_is6i, e_is6r, e_is6n, e_inc4i, e_inc4r, e_inc4n, e_inc5i, e_inc5r, e_inc5n, e_inc3i, e_inc3r, e_inc3n, e_inc6i, e_inc6r, e_inc6n, e_c, e_i2, e_dup2, e_b2, e_gi, e_gr, e_ald, e_ast, e_ir, e_cv2, e_hd, e_cv1, e_c10, e_c1i, e_c1r, e_sh0, e_sh1, e_sh2, e_sh3, e_sh4, e_tls, e_tln, e_tl0, e_tl1, cl_82, cl_85, ln_85, cl_89, ln_89, cl_93, ln_93, tg_82_3, tg_82_8, tg_82_12, q_N_reads, q_N_stronger, Nat.reduceAdd, true_and, and_true, true_implies, not_true_eq_false, false_implies, not_false_eq_true, imp_self, forall_const, List.append_nil, ra_I, ra_J, ra_pad, true_or, or_true, Nat.reduceEqDiff, ra_bz, eq_self, if_true, if_false, false_and, and_false, Nat.zero_le, List.cons_append, List.nil_append, Nat.reduceLT, Nat.reduceLeDiff, Nat.reduceMul, Nat.reduceSub, n_0, n_1, n_2, n_3, n_4, n_5, n_6, n_7, n_8, n_9, n_10, n_12, n_40, n_48, n_57, n_59, n_72, n_99, n_102, n_103, n_107, n_108, n_192, n_255, n_256, n_999, n_1000, n_104, nI_add, pk_mul, n_cl, n_inT, n_le, n_lt, n_eq, n_m1, n_m1', n_lem1, n_m1le, n_ltm1, n_m1lt, n_lepred, n_shl, fa_or, hP.1.1]
      refine ⟨fun q => ⟨fun q2 => ?_, fun q2 => ?_⟩, fun q => by omega⟩
      · rw [if_pos (show x = -1 from q2)] at h9
        rw [show h = ab_hc a by omega]
        exact h9
      · rw [if_neg (show ¬ x = -1 from q2)] at h9
        rcases hx with hx | hx
        · exact absurd hx q2
        · obtain ⟨y, hy, rfl⟩ := an_hs_of hx
          rw [n_cl (by omega), hq y hy]
          rw [n_cl (by omega)] at h9
          exact ⟨vi (by omega) (by decide), h9⟩
  · intro as σ0 Z h0 μ L S σ hI
    obtain ⟨rfl, x, m, k, h, s, u4, u5, u6, u7, rfl, hm, hR, hP, hf, hh, hk, hq, rfl, rfl⟩ := hI
    have g1 := hS_le hW (hT a m) h (by omega)
    have g2 := hQ_le hW (hT a m) h k hk
    by_cases hlt : k < a 3 0
    · have h9 := hW.2.2.2.2.2.1 k
      have t9 := hT_9 m hh
      simp (disch := omega) only [b_N_handsOf_239, b_N_handsOf_233, b_N_handsOf_229, b_N_handsOf_224, b_N_handsOf_218, b_N_handsOf_210, b_N_handsOf_209, b_N_handsOf_191, b_N_handsOf_173, b_N_handsOf_164, b_N_handsOf_161, b_N_handsOf_152, b_N_handsOf_147, b_N_handsOf_141, b_N_handsOf_130, b_N_handsOf_124, b_N_handsOf_116, b_N_handsOf_114, b_N_handsOf_109, b_N_handsOf_100, b_N_handsOf_98, b_N_handsOf_93, b_N_handsOf_84, b_N_handsOf_83, b_N_handsOf_69, b_N_handsOf_57, b_N_handsOf_48, b_N_handsOf_39, b_N_handsOf_34, b_N_handsOf_32, b_N_handsOf_14, b_N_handsOf_6, b_N_handsOf_0, e_al0, e_il2, e_il3, e_il5, e_il4, e_il7, e_il6, e_il1, e_is3i, e_is3r, e_is3n, e_is5i, e_is5r, e_is5n, e_is4i, e_is4r, e_is4n, e_is7i, e_is7r, e_is7n, e_is6i, e_is6r, e_is6n, e_inc4i, e_inc4r, e_inc4n, e_inc5i, e_inc5r, e_inc5n, e_inc3i, e_inc3r, e_inc3n, e_inc6i, e_inc6r, e_inc6n, e_c, e_i2, e_dup2, e_b2, e_gi, e_gr, e_ald, e_ast, e_ir, e_cv2, e_hd, e_cv1, e_c10, e_c1i, e_c1r, e_sh0, e_sh1, e_sh2, e_sh3, e_sh4, e_tls, e_tln, e_tl0, e_tl1, cl_82, cl_85, ln_85, cl_89, ln_89, cl_93, ln_93, tg_82_3, tg_82_8, tg_82_12, q_N_reads, q_N_stronger, Nat.reduceAdd, true_and, and_true, true_implies, not_true_eq_false, false_implies, not_false_eq_true, imp_self, forall_const, List.append_nil, ra_I, ra_J, ra_pad, true_or, or_true, Nat.reduceEqDiff, ra_bz, eq_self, if_true, if_false, false_and, and_false, Nat.zero_le, List.cons_append, List.nil_append, Nat.reduceLT, Nat.reduceLeDiff, Nat.reduceMul, Nat.reduceSub, n_0, n_1, n_2, n_3, n_4, n_5, n_6, n_7, n_8, n_9, n_10, n_12, n_40, n_48, n_57, n_59, n_72, n_99, n_102, n_103, n_107, n_108, n_192, n_255, n_256, n_999, n_1000, n_104, nI_add, pk_mul, n_cl, n_inT, n_le, n_lt, n_eq, n_m1, n_m1', n_lem1, n_m1le, n_ltm1, n_m1lt, n_lepred, n_shl, fa_or, hR.2.1, hR.2.2.1 k hlt, hq h hh]
      have go : ∀ v : Nat, v = a 4 k - hT a m h → ∃ μ', ra_lx μ' (ab_hc a - h, 0, a 3 0 - k) ∧ I_N_handsOf a Z [.ref 82, .int (nI m), .int x] σ0 164 μ' [.ref 82, .int (nI m), .int x, .int (nI (fb_sm (hQ a (hT a m)) h + fb_sm (fun k => a 4 k - hT a m h) k + v)), .int (nI h), .int (nI (k + 1)), u6, u7] [] σ := by
        intro v hv
        refine ⟨(ab_hc a - h, 0, a 3 0 - (k + 1)), lx3 (by omega), rfl, x, m, k + 1, h, 0, u4, u5, u6, u7, rfl, hm, hR, hP, hf, hh, by omega, hq, rfl, ?_⟩
        rw [fb_sm_succ, hv, Nat.add_assoc]
      refine ⟨fun q => by omega, fun q => ⟨fun q2 => go 0 (by omega), fun q2 => ?_⟩⟩
      rw [n_sub (by omega), nI_add]
      exact go _ rfl
    · simp (disch := omega) only [b_N_handsOf_239, b_N_handsOf_233, b_N_handsOf_229, b_N_handsOf_224, b_N_handsOf_218, b_N_handsOf_210, b_N_handsOf_209, b_N_handsOf_191, b_N_handsOf_164, b_N_handsOf_161, b_N_handsOf_152, b_N_handsOf_147, b_N_handsOf_141, b_N_handsOf_130, b_N_handsOf_124, b_N_handsOf_116, b_N_handsOf_114, b_N_handsOf_109, b_N_handsOf_100, b_N_handsOf_98, b_N_handsOf_93, b_N_handsOf_84, b_N_handsOf_83, b_N_handsOf_69, b_N_handsOf_57, b_N_handsOf_48, b_N_handsOf_39, b_N_handsOf_34, b_N_handsOf_32, b_N_handsOf_14, b_N_handsOf_6, b_N_handsOf_0, e_al0, e_il2, e_il3, e_il5, e_il4, e_il7, e_il6, e_il1, e_is3i, e_is3r, e_is3n, e_is5i, e_is5r, e_is5n, e_is4i, e_is4r, e_is4n, e_is7i, e_is7r, e_is7n, e_is6i, e_is6r, e_is6n, e_inc4i, e_inc4r, e_inc4n, e_inc5i, e_inc5r, e_inc5n, e_inc3i, e_inc3r, e_inc3n, e_inc6i, e_inc6r, e_inc6n, e_c, e_i2, e_dup2, e_b2, e_gi, e_gr, e_ald, e_ast, e_ir, e_cv2, e_hd, e_cv1, e_c10, e_c1i, e_c1r, e_sh0, e_sh1, e_sh2, e_sh3, e_sh4, e_tls, e_tln, e_tl0, e_tl1, cl_82, cl_85, ln_85, cl_89, ln_89, cl_93, ln_93, tg_82_3, tg_82_8, tg_82_12, q_N_reads, q_N_stronger, Nat.reduceAdd, true_and, and_true, true_implies, not_true_eq_false, false_implies, not_false_eq_true, imp_self, forall_const, List.append_nil, ra_I, ra_J, ra_pad, true_or, or_true, Nat.reduceEqDiff, ra_bz, eq_self, if_true, if_false, false_and, and_false, Nat.zero_le, List.cons_append, List.nil_append, Nat.reduceLT, Nat.reduceLeDiff, Nat.reduceMul, Nat.reduceSub, n_0, n_1, n_2, n_3, n_4, n_5, n_6, n_7, n_8, n_9, n_10, n_12, n_40, n_48, n_57, n_59, n_72, n_99, n_102, n_103, n_107, n_108, n_192, n_255, n_256, n_999, n_1000, n_104, nI_add, pk_mul, n_cl, n_inT, n_le, n_lt, n_eq, n_m1, n_m1', n_lem1, n_m1le, n_ltm1, n_m1lt, n_lepred, n_shl, fa_or, hR.2.1]
      refine ⟨fun q => ⟨(ab_hc a - (h + 1), 1, 0), lx1 (by omega), rfl, x, m, 0, h + 1, 0, u4, .int (nI k), u6, u7, rfl, hm, hR, hP, hf, by omega, hq, rfl, ?_⟩, fun q => by omega⟩
      rw [fb_sm_succ, show k = a 3 0 by omega]
      rfl
noncomputable def an_hands (a : Ab) (k x : Int32) : Int32 := by
  classical
  exact if an_in k 72 ∧ (x = -1 ∨ an_hs a x) then an_hd a k x else -2
theorem an_hands_yes {a : Ab} {k x : Int32} (h : an_in k 72 ∧ (x = -1 ∨ an_hs a x)) : an_hands a k x = an_hd a k x := by
  unfold an_hands
  exact if_pos h
theorem an_hands_no {a : Ab} {k x : Int32} (h : ¬ (an_in k 72 ∧ (x = -1 ∨ an_hs a x))) : an_hands a k x = -2 := by
  unfold an_hands
  exact if_neg h
def sp_N_hands (a : Ab) : ra_Sp := ra_f2 82 (fun k x σ Z => rn_R a σ ∧ ∀ σ', ra_fr rn_scr σ σ' → Z (some (.int (an_hands a k x))) σ')
theorem q_N_hands {a : Ab} {oo : Nat} {k x : Int32} {σ : ra_St} {Z : ra_R} : sp_N_hands a [.ref oo, .int k, .int x] σ Z = (oo = 82 ∧ (rn_R a σ ∧ ∀ σ', ra_fr rn_scr σ σ' → Z (some (.int (an_hands a k x))) σ')) := rfl
theorem k_N_hands {l : Launch} {X : ra_X} {a : Ab} (hW : ab_W a) : ra_MOK l X mi_N_hands (sp_N_hands a) := by
  refine g_N_hands k_N_in (k_N_isHouse hW) (k_N_handsOf hW) (sp_N_hands a) ?_
  intro as σ Z _ _ h
  obtain ⟨k, x, rfl, hR, hZ⟩ := x_f2 h
  simp (disch := omega) only [b_N_hands_34, b_N_hands_32, b_N_hands_23, b_N_hands_15, b_N_hands_10, b_N_hands_0, e_al0, e_il1, e_il2, e_c, e_b1, e_b2, e_ir, e_cs3, e_cv3, e_hd, e_cv2, e_c10, e_c1i, e_c1r, e_sh0, e_sh1, e_sh2, e_sh3, e_sh4, e_tls, e_tln, e_tl0, e_tl1, cl_82, q_N_in, q_N_isHouse, q_N_handsOf, Nat.reduceAdd, true_and, and_true, true_implies, not_true_eq_false, false_implies, not_false_eq_true, imp_self, forall_const, List.append_nil, ra_I, ra_J, ra_pad, true_or, or_true, Nat.reduceEqDiff, ra_bz, eq_self, if_true, if_false, false_and, and_false, Nat.zero_le, List.cons_append, List.nil_append, Nat.reduceLT, Nat.reduceLeDiff, Nat.reduceMul, Nat.reduceSub, n_0, n_1, n_2, n_3, n_4, n_5, n_6, n_7, n_8, n_9, n_10, n_12, n_40, n_48, n_57, n_59, n_72, n_99, n_102, n_103, n_107, n_108, n_192, n_255, n_256, n_999, n_1000, n_104, nI_add, pk_mul, n_cl, n_in, n_le, n_lt, n_eq, n_m1, n_m1', n_lem1, n_m1le, n_ltm1, n_m1lt, n_lepred, n_shl, fa_or]
  have no : ∀ σ', ra_fr rn_scr σ σ' → ¬ (an_in k 72 ∧ (x = -1 ∨ an_hs a x)) → Z (some (.int (-2))) σ' := by
    intro σ' g q
    have h9 := hZ σ' g
    rw [an_hands_no q] at h9
    exact h9
  have yes : ∀ σ', ra_fr rn_scr σ σ' → an_in k 72 ∧ (x = -1 ∨ an_hs a x) → Z (some (.int (an_hd a k x))) σ' := by
    intro σ' g q
    have h9 := hZ σ' g
    rw [an_hands_yes q] at h9
    exact h9
  refine ⟨fun q => ⟨fun q2 => ⟨hR, q, Or.inl q2, fun σ' g1 g2 => yes σ' g2 ⟨q, Or.inl q2⟩⟩, fun q2 => ⟨hR.1, fun σ1 g1 g2 => ⟨fun q3 => ⟨hR.fr g2 (by decide), q, Or.inr q3, fun σ' g3 g4 => yes σ' ((g2.mono (by decide)).tr g4 (by decide)) ⟨q, Or.inr q3⟩⟩, fun q3 => no σ1 (g2.mono (by decide)) (fun z => ?_)⟩⟩⟩, fun q => no σ ra_fr.rf (fun z => q z.1)⟩
  rcases z.2 with z | z
  · exact q2 z
  · exact q3 z
