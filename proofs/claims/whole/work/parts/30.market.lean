def mk_w (a : Ab) (h r : Nat) : Nat := a 6 (8 * h + r)
def mk_want (a : Ab) (f : Nat → Nat) (x y : Nat) : Prop := mk_w a x (f x) < mk_w a x (f y) ∧ mk_w a y (f y) < mk_w a y (f x)
noncomputable def mk_p (a : Ab) (f : Nat → Nat) (p : Nat) : Bool := by
  classical
  exact decide (p / 8 < p % 8 ∧ p % 8 < ab_hc a ∧ mk_want a f (p / 8) (p % 8))
theorem mk_p_iff {a : Ab} {f : Nat → Nat} {p : Nat} : mk_p a f p = true ↔ p / 8 < p % 8 ∧ p % 8 < ab_hc a ∧ mk_want a f (p / 8) (p % 8) := by
  classical
  unfold mk_p
  exact decide_eq_true_iff
theorem mk_p_no {a : Ab} {f : Nat → Nat} {p : Nat} (h : ¬ (p / 8 < p % 8 ∧ p % 8 < ab_hc a ∧ mk_want a f (p / 8) (p % 8))) : mk_p a f p = false := by
  cases e : mk_p a f p with
  | false => rfl
  | true => exact absurd (mk_p_iff.mp e) h
def mk_sw (f : Nat → Nat) (x y : Nat) : Nat → Nat := fun j => if j = x then f y else if j = y then f x else f j
noncomputable def mk_run (a : Ab) : Nat → (Nat → Nat) → (Nat → Nat) × Nat
  | 0, f => (f, 0)
  | n + 1, f => if fa_first (mk_p a f) 64 < 64 then ((mk_run a n (mk_sw f (fa_first (mk_p a f) 64 / 8) (fa_first (mk_p a f) 64 % 8))).1, (mk_run a n (mk_sw f (fa_first (mk_p a f) 64 / 8) (fa_first (mk_p a f) 64 % 8))).2 + 1) else (f, 0)
def mk_pot (a : Ab) (f : Nat → Nat) : Nat := fb_sm (fun h => mk_w a h (f h)) (ab_hc a)
theorem mk_pot_72 {a : Ab} (hW : ab_W a) (f : Nat → Nat) : mk_pot a f ≤ 72 := by
  have h1 := fb_sm_bound (f := fun h => mk_w a h (f h)) (c := 9) (n := ab_hc a) (fun k _ => hW.2.2.2.2.2.2.2.2.2.1 _)
  have h2 := ab_hc_8 a
  unfold mk_pot
  omega
theorem mk_pot_sw {a : Ab} {f : Nat → Nat} {x y : Nat} (hx : x < ab_hc a) (hy : y < ab_hc a) (hxy : x ≠ y) (hw : mk_want a f x y) : mk_pot a f + 2 ≤ mk_pot a (mk_sw f x y) := by
  have e : (fun h => mk_w a h (mk_sw f x y h)) = (fun k => if k = x then mk_w a x (f y) else if k = y then mk_w a y (f x) else mk_w a k (f k)) := by
    funext k
    unfold mk_sw
    by_cases h1 : k = x
    · subst h1
      simp
    · by_cases h2 : k = y
      · subst h2
        simp [h1]
      · simp [h1, h2]
  have h1 : fb_sm (fun k => if k = x then mk_w a x (f y) else if k = y then mk_w a y (f x) else mk_w a k (f k)) (ab_hc a) + mk_w a x (f x) = fb_sm (fun k => if k = y then mk_w a y (f x) else mk_w a k (f k)) (ab_hc a) + mk_w a x (f y) := by
    have := fb_sm_upd (fun k => if k = y then mk_w a y (f x) else mk_w a k (f k)) (mk_w a x (f y)) hx
    rw [if_neg hxy] at this
    exact this
  have h2 : fb_sm (fun k => if k = y then mk_w a y (f x) else mk_w a k (f k)) (ab_hc a) + mk_w a y (f y) = fb_sm (fun h => mk_w a h (f h)) (ab_hc a) + mk_w a y (f x) := fb_sm_upd (fun h => mk_w a h (f h)) (mk_w a y (f x)) hy
  unfold mk_pot
  rw [e]
  have := hw.1
  have := hw.2
  omega
/-- the row that is had, as cells -/
def rn_has (a : Ab) (f : Nat → Nat) (σ : ra_St) : Prop := ∀ h, h < ab_hc a → σ 101 h = nI (f h) ∧ f h < ab_hc a
def sp_N_doWant (a : Ab) : ra_Sp := ra_f2 82 (fun x y σ Z => rn_R a σ ∧ ∃ f : Nat → Nat, rn_has a f σ ∧ an_hs a x ∧ an_hs a y ∧ ra_bz (mk_want a f x.toNatClampNeg y.toNatClampNeg) Z σ)
theorem q_N_doWant {a : Ab} {oo : Nat} {x y : Int32} {σ : ra_St} {Z : ra_R} : sp_N_doWant a [.ref oo, .int x, .int y] σ Z = (oo = 82 ∧ (rn_R a σ ∧ ∃ f : Nat → Nat, rn_has a f σ ∧ an_hs a x ∧ an_hs a y ∧ ra_bz (mk_want a f x.toNatClampNeg y.toNatClampNeg) Z σ)) := rfl
theorem k_N_doWant {l : Launch} {X : ra_X} {a : Ab} (hW : ab_W a) : ra_MOK l X mi_N_doWant (sp_N_doWant a) := by
  have h8 := ab_hc_8 a
  refine g_N_doWant (sp_N_doWant a) ?_
  intro as σ Z _ _ h
  obtain ⟨_, _, rfl, hR, f, hf, hx0, hy0, h1, h2⟩ := x_f2 h
  obtain ⟨x, hx, rfl⟩ := an_hs_of hx0
  obtain ⟨y, hy, rfl⟩ := an_hs_of hy0
  rw [n_cl (by omega), n_cl (by omega)] at h1 h2
  obtain ⟨e1, b1⟩ := hf x hx
  obtain ⟨e2, b2⟩ := hf y hy
  have w := hR.2.2.2.2.2.1
  have c1 := hW.2.2.2.2.2.2.2.2.2.1 (8 * x + f y)
  have c2 := hW.2.2.2.2.2.2.2.2.2.1 (8 * x + f x)
  have c3 := hW.2.2.2.2.2.2.2.2.2.1 (8 * y + f y)
  have c4 := hW.2.2.2.2.2.2.2.2.2.1 (8 * y + f x)
  simp (disch := omega) only [b_N_doWant_75, b_N_doWant_74, b_N_doWant_70, b_N_doWant_35, b_N_doWant_0, e_al0, e_il2, e_il1, e_c, e_i2, e_b2, e_gr, e_ald, e_zr, cl_82, cl_100, ln_100, cl_101, ln_101, tg_82_19, tg_82_20, Nat.reduceAdd, true_and, and_true, true_implies, not_true_eq_false, false_implies, not_false_eq_true, imp_self, forall_const, List.append_nil, ra_I, ra_J, ra_pad, true_or, or_true, Nat.reduceEqDiff, ra_bz, eq_self, if_true, if_false, false_and, and_false, Nat.zero_le, List.cons_append, List.nil_append, Nat.reduceLT, Nat.reduceLeDiff, Nat.reduceMul, Nat.reduceSub, n_0, n_1, n_2, n_3, n_4, n_5, n_6, n_7, n_8, n_9, n_10, n_12, n_40, n_48, n_57, n_59, n_72, n_99, n_102, n_103, n_107, n_108, n_192, n_255, n_256, n_999, n_1000, n_104, nI_add, pk_mul, n_cl, n_inT, n_le, n_lt, n_eq, n_m1, n_m1', n_lem1, n_m1le, n_ltm1, n_m1lt, n_lepred, n_shl, fa_or, e1, e2, w (8 * x + f y) (by omega), w (8 * x + f x) (by omega), w (8 * y + f y) (by omega), w (8 * y + f x) (by omega)]
  unfold mk_want mk_w at h1 h2
  exact ⟨fun q => h2 (by omega), fun q => ⟨fun q2 => h2 (by omega), fun q2 => h1 ⟨by omega, by omega⟩⟩⟩
def sp_N_hasAsTold (a : Ab) : ra_Sp := ra_f0 82 (fun σ Z => rn_R a σ ∧ ∀ σ', rn_P a σ' → rn_has a (ab_ow a) σ' → ra_fr rn_scr σ σ' → Z none σ')
theorem q_N_hasAsTold {a : Ab} {oo : Nat} {σ : ra_St} {Z : ra_R} : sp_N_hasAsTold a [.ref oo] σ Z = (oo = 82 ∧ (rn_R a σ ∧ ∀ σ', rn_P a σ' → rn_has a (ab_ow a) σ' → ra_fr rn_scr σ σ' → Z none σ')) := rfl
def I_N_hasAsTold (a : Ab) (Z : ra_R) (as : List Value) (σ0 : ra_St) (t : Nat) (μ : ra_M) : ra_K := fun L S σ => S = [] ∧ as = [.ref 82] ∧ ∃ h : Nat, h ≤ ab_hc a ∧ rn_P a σ ∧ ra_fr rn_scr σ0 σ ∧ (∀ j, j < h → σ 101 j = nI (ab_ow a j)) ∧ μ = (ab_hc a - h, 0, 0) ∧ L = [.ref 82, .int (nI h)]
theorem k_N_hasAsTold {l : Launch} {X : ra_X} {a : Ab} (hW : ab_W a) : ra_MOK l X mi_N_hasAsTold (sp_N_hasAsTold a) := by
  have h8 := ab_hc_8 a
  refine g_N_hasAsTold (k_N_reads hW) (sp_N_hasAsTold a) (I_N_hasAsTold a) ?_ ?_
  · intro as σ Z _ _ h
    obtain ⟨rfl, hR, hZ⟩ := x_f0 h
    simp only [b_N_hasAsTold_32, b_N_hasAsTold_14, b_N_hasAsTold_6, b_N_hasAsTold_0, e_al0, e_il1, e_is1i, e_is1r, e_is1n, e_inc1i, e_inc1r, e_inc1n, e_c, e_b2, e_gi, e_gr, e_ald, e_ast, e_vr, e_cv1, e_hd, e_c10, e_c1i, e_c1r, e_sh0, e_sh1, e_sh2, e_sh3, e_sh4, e_tls, e_tln, e_tl0, e_tl1, cl_82, cl_88, ln_88, cl_101, ln_101, tg_82_6, tg_82_20, q_N_reads, Nat.reduceAdd, true_and, and_true, true_implies, not_true_eq_false, false_implies, not_false_eq_true, imp_self, forall_const, List.append_nil, ra_I, ra_J, ra_pad, true_or, or_true, Nat.reduceEqDiff, ra_bz, eq_self, if_true, if_false, false_and, and_false, Nat.zero_le, List.cons_append, List.nil_append, Nat.reduceLT, Nat.reduceLeDiff, Nat.reduceMul, Nat.reduceSub]
    exact ⟨hR.1, fun σ1 hP hf => ⟨_, rfl, rfl, 0, by omega, hP, hf.mono (by decide), fun j hj => by omega, rfl, rfl⟩⟩
  · intro as σ0 Z h0 μ L S σ hI
    obtain ⟨rfl, rfl, h, hh, hP, hf, hq, rfl, rfl⟩ := hI
    obtain ⟨-, hR0, hZ⟩ := x_f0 h0
    simp (disch := omega) only [b_N_hasAsTold_32, b_N_hasAsTold_14, b_N_hasAsTold_6, b_N_hasAsTold_0, e_al0, e_il1, e_is1i, e_is1r, e_is1n, e_inc1i, e_inc1r, e_inc1n, e_c, e_b2, e_gi, e_gr, e_ald, e_ast, e_vr, e_cv1, e_hd, e_c10, e_c1i, e_c1r, e_sh0, e_sh1, e_sh2, e_sh3, e_sh4, e_tls, e_tln, e_tl0, e_tl1, cl_82, cl_88, ln_88, cl_101, ln_101, tg_82_6, tg_82_20, q_N_reads, Nat.reduceAdd, true_and, and_true, true_implies, not_true_eq_false, false_implies, not_false_eq_true, imp_self, forall_const, List.append_nil, ra_I, ra_J, ra_pad, true_or, or_true, Nat.reduceEqDiff, ra_bz, eq_self, if_true, if_false, false_and, and_false, Nat.zero_le, List.cons_append, List.nil_append, Nat.reduceLT, Nat.reduceLeDiff, Nat.reduceMul, Nat.reduceSub, n_0, n_1, n_2, n_3, n_4, n_5, n_6, n_7, n_8, n_9, n_10, n_12, n_40, n_48, n_57, n_59, n_72, n_99, n_102, n_103, n_107, n_108, n_192, n_255, n_256, n_999, n_1000, n_104, nI_add, pk_mul, n_cl, n_inT, n_le, n_lt, n_eq, n_m1, n_m1', n_lem1, n_m1le, n_ltm1, n_m1lt, n_lepred, n_shl, fa_or, hP.1.1]
    refine ⟨fun q => hZ σ hP (fun j hj => ⟨hq j (by omega), ab_ow_lt hj⟩) hf, fun q => ?_⟩
    simp (disch := omega) only [n_inT, true_and, hP.2 h (by omega)]
    have hf1 : ra_fr [101] σ (ra_sw σ 101 h (nI (ab_ow a h))) := ra_fr.rf.sw (by decide) (by decide)
    refine ⟨(ab_hc a - (h + 1), 0, 0), lx1 (by omega), rfl, rfl, h + 1, by omega, hP.fr hf1 (by simp [sw_at]) (by decide), hf.tr hf1 (by decide), fun j hj => ?_, rfl, rfl⟩
    rw [sw_at, if_pos rfl]
    split
    · next e => rw [e]
    · exact hq j (by omega)
noncomputable def an_want (a : Ab) (x y : Int32) : Int32 := by
  classical
  exact if an_hs a x ∧ an_hs a y ∧ ¬ x = y then (if mk_want a (ab_ow a) x.toNatClampNeg y.toNatClampNeg then 1 else 0) else -2
theorem an_want_yes {a : Ab} {x y : Int32} (h : an_hs a x ∧ an_hs a y ∧ ¬ x = y) (hw : mk_want a (ab_ow a) x.toNatClampNeg y.toNatClampNeg) : an_want a x y = 1 := by
  unfold an_want
  rw [if_pos h, if_pos hw]
theorem an_want_not {a : Ab} {x y : Int32} (h : an_hs a x ∧ an_hs a y ∧ ¬ x = y) (hw : ¬ mk_want a (ab_ow a) x.toNatClampNeg y.toNatClampNeg) : an_want a x y = 0 := by
  unfold an_want
  rw [if_pos h, if_neg hw]
theorem an_want_no {a : Ab} {x y : Int32} (h : ¬ (an_hs a x ∧ an_hs a y ∧ ¬ x = y)) : an_want a x y = -2 := by
  unfold an_want
  exact if_neg h
def sp_N_want (a : Ab) : ra_Sp := ra_f2 82 (fun x y σ Z => rn_R a σ ∧ ∀ σ', ra_fr rn_scr σ σ' → Z (some (.int (an_want a x y))) σ')
theorem q_N_want {a : Ab} {oo : Nat} {x y : Int32} {σ : ra_St} {Z : ra_R} : sp_N_want a [.ref oo, .int x, .int y] σ Z = (oo = 82 ∧ (rn_R a σ ∧ ∀ σ', ra_fr rn_scr σ σ' → Z (some (.int (an_want a x y))) σ')) := rfl
theorem k_N_want {l : Launch} {X : ra_X} {a : Ab} (hW : ab_W a) : ra_MOK l X mi_N_want (sp_N_want a) := by
  refine g_N_want (k_N_isHouse hW) (k_N_hasAsTold hW) (k_N_doWant hW) (sp_N_want a) ?_
  intro as σ Z _ _ h
  obtain ⟨x, y, rfl, hR, hZ⟩ := x_f2 h
  simp (disch := omega) only [b_N_want_42, b_N_want_41, b_N_want_37, b_N_want_24, b_N_want_21, b_N_want_16, b_N_want_8, b_N_want_0, e_al0, e_il1, e_il2, e_c, e_b1, e_b2, e_ir, e_cv1, e_hd, e_cv3, e_cv2, e_c10, e_c1i, e_c1r, e_sh0, e_sh1, e_sh2, e_sh3, e_sh4, e_tls, e_tln, e_tl0, e_tl1, cl_82, q_N_isHouse, q_N_hasAsTold, q_N_doWant, Nat.reduceAdd, true_and, and_true, true_implies, not_true_eq_false, false_implies, not_false_eq_true, imp_self, forall_const, List.append_nil, ra_I, ra_J, ra_pad, true_or, or_true, Nat.reduceEqDiff, ra_bz, eq_self, if_true, if_false, false_and, and_false, Nat.zero_le, List.cons_append, List.nil_append, Nat.reduceLT, Nat.reduceLeDiff, Nat.reduceMul, Nat.reduceSub, n_0, n_1, n_2, n_3, n_4, n_5, n_6, n_7, n_8, n_9, n_10, n_12, n_40, n_48, n_57, n_59, n_72, n_99, n_102, n_103, n_107, n_108, n_192, n_255, n_256, n_999, n_1000, n_104, nI_add, pk_mul, n_cl, n_in, n_le, n_lt, n_eq, n_m1, n_m1', n_lem1, n_m1le, n_ltm1, n_m1lt, n_lepred, n_shl, fa_or]
  have no : ∀ σ', ra_fr rn_scr σ σ' → ¬ (an_hs a x ∧ an_hs a y ∧ ¬ x = y) → Z (some (.int (-2))) σ' := by
    intro σ' g q
    have h9 := hZ σ' g
    rw [an_want_no q] at h9
    exact h9
  refine ⟨hR.1, fun σ1 g1 g2 => ⟨fun q => ⟨(hR.fr g2 (by decide)).1, fun σ2 g3 g4 => ?_⟩, fun q => no _ (g2.mono (by decide)) (fun z => q z.1)⟩⟩
  have g24 : ra_fr rn_scr σ σ2 := (g2.mono (by decide)).tr g4 (by decide)
  refine ⟨fun q2 => ⟨fun q3 => no _ g24 (fun z => z.2.2 q3), fun q3 => ⟨hR.fr g24 (by decide), fun σ3 g5 g6 g7 => ⟨hR.fr (g24.tr g7 (by decide)) (by decide), ab_ow a, g6, q, q2, fun q4 => ?_, fun q4 => ?_⟩⟩⟩, fun q2 => no _ g24 (fun z => q2 z.2.1)⟩
  · have h9 := hZ σ3 (g24.tr g7 (by decide))
    rw [an_want_yes ⟨q, q2, q3⟩ q4] at h9
    exact h9
  · have h9 := hZ σ3 (g24.tr g7 (by decide))
    rw [an_want_not ⟨q, q2, q3⟩ q4] at h9
    exact h9
noncomputable def mk_end (a : Ab) : (Nat → Nat) × Nat := mk_run a 100 (ab_ow a)
noncomputable def an_mk (a : Ab) (x : Int32) : Int32 := if x = -1 then nI (mk_end a).2 else if x = -2 then nI (mk_pot a (mk_end a).1) else nI ((mk_end a).1 x.toNatClampNeg)
def sp_N_marketOf (a : Ab) : ra_Sp := ra_f1 82 (fun x σ Z => rn_R a σ ∧ (an_hs a x ∨ x = -1 ∨ x = -2) ∧ ∀ σ', rn_P a σ' → ra_fr rn_scr σ σ' → Z (some (.int (an_mk a x))) σ')
theorem q_N_marketOf {a : Ab} {oo : Nat} {x : Int32} {σ : ra_St} {Z : ra_R} : sp_N_marketOf a [.ref oo, .int x] σ Z = (oo = 82 ∧ (rn_R a σ ∧ (an_hs a x ∨ x = -1 ∨ x = -2) ∧ ∀ σ', rn_P a σ' → ra_fr rn_scr σ σ' → Z (some (.int (an_mk a x))) σ')) := rfl
def I_N_marketOf (a : Ab) (Z : ra_R) (as : List Value) (σ0 : ra_St) (t : Nat) (μ : ra_M) : ra_K := fun L S σ => S = [] ∧ ∃ (x : Int32) (f : Nat → Nat) (fuel n s p q : Nat) (u v w : Value), as = [.ref 82, .int x] ∧ s ≤ 1 ∧ rn_R a σ ∧ rn_P a σ ∧ rn_has a f σ ∧ ra_fr rn_scr σ0 σ ∧ mk_end a = ((mk_run a fuel f).1, n + (mk_run a fuel f).2) ∧ n + fuel = 100 ∧ 72 < mk_pot a f + 2 * fuel ∧ p ≤ ab_hc a ∧
  match t with
  | 8 => μ = (fuel, if s = 1 then 4 else 1, 0) ∧ (s = 0 → fa_first (mk_p a f) 64 = 64) ∧ L = [.ref 82, .int x, .int (nI n), .int (nI s), u, v, w]
  | 17 => μ = (fuel, if s = 1 then 5 else 3, (ab_hc a - p) * 10 + 9) ∧ (s = 0 → ∀ j, j < 8 * p → mk_p a f j = false) ∧ L = [.ref 82, .int x, .int (nI n), .int (nI s), .int (nI p), v, w]
  | 36 => μ = (fuel, if s = 1 then 6 else 3, (ab_hc a - p) * 10 + (ab_hc a - q)) ∧ p < ab_hc a ∧ p < q ∧ q ≤ ab_hc a + s ∧ (s = 0 → ∀ j, j < 8 * p + q → mk_p a f j = false) ∧ L = [.ref 82, .int x, .int (nI n), .int (nI s), .int (nI p), .int (nI q), w]
  | _ => μ = (fuel, 0, ab_hc a - p) ∧ fa_first (mk_p a f) 64 = 64 ∧ L = [.ref 82, .int x, .int (nI n), .int (nI 0), .int (nI (fb_sm (fun h => mk_w a h (f h)) p)), .int (nI p), w]
theorem k_N_marketOf {l : Launch} {X : ra_X} {a : Ab} (hW : ab_W a) : ra_MOK l X mi_N_marketOf (sp_N_marketOf a) := by
  have h8 := ab_hc_8 a
  refine g_N_marketOf (k_N_hasAsTold hW) (k_N_doWant hW) (sp_N_marketOf a) (I_N_marketOf a) ?_ ?_ ?_ ?_ ?_
  · intro as σ Z _ _ h
    obtain ⟨x, rfl, hR, hx, hZ⟩ := x_f1 h
    simp only [b_N_marketOf_182, b_N_marketOf_176, b_N_marketOf_171, b_N_marketOf_165, b_N_marketOf_161, b_N_marketOf_156, b_N_marketOf_127, b_N_marketOf_118, b_N_marketOf_112, b_N_marketOf_109, b_N_marketOf_103, b_N_marketOf_97, b_N_marketOf_60, b_N_marketOf_49, b_N_marketOf_45, b_N_marketOf_36, b_N_marketOf_30, b_N_marketOf_26, b_N_marketOf_17, b_N_marketOf_12, b_N_marketOf_8, b_N_marketOf_0, e_al0, e_il1, e_il4, e_il2, e_il5, e_il6, e_il3, e_is4i, e_is4r, e_is4n, e_is5i, e_is5r, e_is5n, e_is6i, e_is6r, e_is6n, e_is3i, e_is3r, e_is3n, e_is2i, e_is2r, e_is2n, e_inc5i, e_inc5r, e_inc5n, e_inc4i, e_inc4r, e_inc4n, e_inc2i, e_inc2r, e_inc2n, e_c, e_i2, e_b1, e_b2, e_gi, e_gr, e_ald, e_ast, e_ir, e_cv3, e_hd, e_cv1, e_c10, e_c1i, e_c1r, e_sh0, e_sh1, e_sh2, e_sh3, e_sh4, e_tls, e_tln, e_tl0, e_tl1, cl_82, cl_100, ln_100, cl_101, ln_101, tg_82_19, tg_82_20, q_N_hasAsTold, q_N_doWant, Nat.reduceAdd, true_and, and_true, true_implies, not_true_eq_false, false_implies, not_false_eq_true, imp_self, forall_const, List.append_nil, ra_I, ra_J, ra_pad, true_or, or_true, Nat.reduceEqDiff, ra_bz, eq_self, if_true, if_false, false_and, and_false, Nat.zero_le, List.cons_append, List.nil_append, Nat.reduceLT, Nat.reduceLeDiff, Nat.reduceMul, Nat.reduceSub]
    exact ⟨hR, fun σ1 hP hh hf => ⟨_, rfl, x, ab_ow a, 100, 0, 1, 0, 0, _, _, _, rfl, by omega, hR.fr hf (by decide), hP, hh, hf, by unfold mk_end; rw [Nat.zero_add], rfl, by omega, Nat.zero_le _, rfl, fun z => by omega, rfl⟩⟩
  · -- 8
    intro as σ0 Z h0 μ L S σ hI
    obtain ⟨rfl, x, f, fuel, n, s, p, q, u, v, w, rfl, hs, hR, hP, hH, hf, he, hn, hpot, hp, rfl, hq, rfl⟩ := hI
    simp (disch := omega) only [b_N_marketOf_182, b_N_marketOf_176, b_N_marketOf_171, b_N_marketOf_165, b_N_marketOf_161, b_N_marketOf_156, b_N_marketOf_127, b_N_marketOf_118, b_N_marketOf_112, b_N_marketOf_109, b_N_marketOf_103, b_N_marketOf_97, b_N_marketOf_60, b_N_marketOf_49, b_N_marketOf_45, b_N_marketOf_36, b_N_marketOf_30, b_N_marketOf_26, b_N_marketOf_17, b_N_marketOf_12, b_N_marketOf_8, b_N_marketOf_0, e_al0, e_il1, e_il4, e_il2, e_il5, e_il6, e_il3, e_is4i, e_is4r, e_is4n, e_is5i, e_is5r, e_is5n, e_is6i, e_is6r, e_is6n, e_is3i, e_is3r, e_is3n, e_is2i, e_is2r, e_is2n, e_inc5i, e_inc5r, e_inc5n, e_inc4i, e_inc4r, e_inc4n, e_inc2i, e_inc2r, e_inc2n, e_c, e_i2, e_b1, e_b2, e_gi, e_gr, e_ald, e_ast, e_ir, e_cv3, e_hd, e_cv1, e_c10, e_c1i, e_c1r, e_sh0, e_sh1, e_sh2, e_sh3, e_sh4, e_tls, e_tln, e_tl0, e_tl1, cl_82, cl_100, ln_100, cl_101, ln_101, tg_82_19, tg_82_20, q_N_hasAsTold, q_N_doWant, Nat.reduceAdd, true_and, and_true, true_implies, not_true_eq_false, false_implies, not_false_eq_true, imp_self, forall_const, List.append_nil, ra_I, ra_J, ra_pad, true_or, or_true, Nat.reduceEqDiff, ra_bz, eq_self, if_true, if_false, false_and, and_false, Nat.zero_le, List.cons_append, List.nil_append, Nat.reduceLT, Nat.reduceLeDiff, Nat.reduceMul, Nat.reduceSub, n_0, n_1, n_2, n_3, n_4, n_5, n_6, n_7, n_8, n_9, n_10, n_12, n_40, n_48, n_57, n_59, n_72, n_99, n_102, n_103, n_107, n_108, n_192, n_255, n_256, n_999, n_1000, n_104, nI_add, pk_mul, n_cl, n_inT, n_le, n_lt, n_eq, n_m1, n_m1', n_lem1, n_m1le, n_ltm1, n_m1lt, n_lepred, n_shl, fa_or]
    refine ⟨fun z => ⟨(fuel, 0, ab_hc a - 0), ?_, rfl, x, f, fuel, n, 0, 0, q, u, v, w, rfl, by omega, hR, hP, hH, hf, he, hn, hpot, Nat.zero_le _, rfl, hq z, ?_⟩, fun z => ⟨(fuel, 3, (ab_hc a - 0) * 10 + 9), ?_, rfl, x, f, fuel, n, 0, 0, q, u, v, w, rfl, by omega, hR, hP, hH, hf, he, hn, hpot, Nat.zero_le _, rfl, fun _ j hj => by omega, rfl⟩⟩
    · rw [z]
      exact lx2 (by decide)
    · rw [z]
      rfl
    · rw [show s = 1 by omega]
      exact lx2 (by decide)
  · -- 17
    intro as σ0 Z h0 μ L S σ hI
    obtain ⟨rfl, x, f, fuel, n, s, p, q, u, v, w, rfl, hs, hR, hP, hH, hf, he, hn, hpot, hp, rfl, hq, rfl⟩ := hI
    have back : (s = 0 → p = ab_hc a) → ∃ μ', ra_lx μ' (fuel, if s = 1 then 5 else 3, (ab_hc a - p) * 10 + 9) ∧ I_N_marketOf a Z [.ref 82, .int x] σ0 8 μ' [.ref 82, .int x, .int (nI n), .int (nI s), .int (nI p), v, w] [] σ := by
      intro z
      refine ⟨(fuel, if s = 1 then 4 else 1, 0), ?_, rfl, x, f, fuel, n, s, p, q, _, v, w, rfl, hs, hR, hP, hH, hf, he, hn, hpot, hp, rfl, fun z2 => ?_, rfl⟩
      · rcases (show s = 0 ∨ s = 1 by omega) with rfl | rfl
        · exact lx2 (by decide)
        · exact lx2 (by decide)
      · refine fa_first_all (fun j hj => ?_)
        by_cases y : j < 8 * p
        · exact hq z2 j y
        · refine mk_p_no (fun y2 => ?_)
          have := z z2
          omega
    rcases (show s = 0 ∨ s = 1 by omega) with rfl | rfl
    · simp (disch := omega) only [b_N_marketOf_182, b_N_marketOf_176, b_N_marketOf_171, b_N_marketOf_165, b_N_marketOf_161, b_N_marketOf_156, b_N_marketOf_127, b_N_marketOf_118, b_N_marketOf_112, b_N_marketOf_109, b_N_marketOf_103, b_N_marketOf_97, b_N_marketOf_60, b_N_marketOf_49, b_N_marketOf_45, b_N_marketOf_36, b_N_marketOf_30, b_N_marketOf_26, b_N_marketOf_17, b_N_marketOf_12, b_N_marketOf_8, b_N_marketOf_0, e_al0, e_il1, e_il4, e_il2, e_il5, e_il6, e_il3, e_is4i, e_is4r, e_is4n, e_is5i, e_is5r, e_is5n, e_is6i, e_is6r, e_is6n, e_is3i, e_is3r, e_is3n, e_is2i, e_is2r, e_is2n, e_inc5i, e_inc5r, e_inc5n, e_inc4i, e_inc4r, e_inc4n, e_inc2i, e_inc2r, e_inc2n, e_c, e_i2, e_b1, e_b2, e_gi, e_gr, e_ald, e_ast, e_ir, e_cv3, e_hd, e_cv1, e_c10, e_c1i, e_c1r, e_sh0, e_sh1, e_sh2, e_sh3, e_sh4, e_tls, e_tln, e_tl0, e_tl1, cl_82, cl_100, ln_100, cl_101, ln_101, tg_82_19, tg_82_20, q_N_hasAsTold, q_N_doWant, Nat.reduceAdd, true_and, and_true, true_implies, not_true_eq_false, false_implies, not_false_eq_true, imp_self, forall_const, List.append_nil, ra_I, ra_J, ra_pad, true_or, or_true, Nat.reduceEqDiff, ra_bz, eq_self, if_true, if_false, false_and, and_false, Nat.zero_le, List.cons_append, List.nil_append, Nat.reduceLT, Nat.reduceLeDiff, Nat.reduceMul, Nat.reduceSub, n_0, n_1, n_2, n_3, n_4, n_5, n_6, n_7, n_8, n_9, n_10, n_12, n_40, n_48, n_57, n_59, n_72, n_99, n_102, n_103, n_107, n_108, n_192, n_255, n_256, n_999, n_1000, n_104, nI_add, pk_mul, n_cl, n_inT, n_le, n_lt, n_eq, n_m1, n_m1', n_lem1, n_m1le, n_ltm1, n_m1lt, n_lepred, n_shl, fa_or, hP.1.1]
      refine ⟨fun z => back (fun _ => by omega), fun z => ⟨(fuel, 3, (ab_hc a - p) * 10 + (ab_hc a - (p + 1))), lx3 (by omega), rfl, x, f, fuel, n, 0, p, p + 1, u, v, w, rfl, by omega, hR, hP, hH, hf, he, hn, hpot, hp, rfl, by omega, by omega, by omega, fun _ j hj => ?_, rfl⟩⟩
      by_cases y : j < 8 * p
      · exact hq rfl j y
      · refine mk_p_no (fun y2 => ?_)
        omega
    · simp (disch := omega) only [b_N_marketOf_182, b_N_marketOf_176, b_N_marketOf_171, b_N_marketOf_165, b_N_marketOf_161, b_N_marketOf_156, b_N_marketOf_127, b_N_marketOf_118, b_N_marketOf_112, b_N_marketOf_109, b_N_marketOf_103, b_N_marketOf_97, b_N_marketOf_60, b_N_marketOf_49, b_N_marketOf_45, b_N_marketOf_36, b_N_marketOf_30, b_N_marketOf_26, b_N_marketOf_17, b_N_marketOf_12, b_N_marketOf_8, b_N_marketOf_0, e_al0, e_il1, e_il4, e_il2, e_il5, e_il6, e_il3, e_is4i, e_is4r, e_is4n, e_is5i, e_is5r, e_is5n, e_is6i, e_is6r, e_is6n, e_is3i, e_is3r, e_is3n, e_is2i, e_is2r, e_is2n, e_inc5i, e_inc5r, e_inc5n, e_inc4i, e_inc4r, e_inc4n, e_inc2i, e_inc2r, e_inc2n, e_c, e_i2, e_b1, e_b2, e_gi, e_gr, e_ald, e_ast, e_ir, e_cv3, e_hd, e_cv1, e_c10, e_c1i, e_c1r, e_sh0, e_sh1, e_sh2, e_sh3, e_sh4, e_tls, e_tln, e_tl0, e_tl1, cl_82, cl_100, ln_100, cl_101, ln_101, tg_82_19, tg_82_20, q_N_hasAsTold, q_N_doWant, Nat.reduceAdd, true_and, and_true, true_implies, not_true_eq_false, false_implies, not_false_eq_true, imp_self, forall_const, List.append_nil, ra_I, ra_J, ra_pad, true_or, or_true, Nat.reduceEqDiff, ra_bz, eq_self, if_true, if_false, false_and, and_false, Nat.zero_le, List.cons_append, List.nil_append, Nat.reduceLT, Nat.reduceLeDiff, Nat.reduceMul, Nat.reduceSub, n_0, n_1, n_2, n_3, n_4, n_5, n_6, n_7, n_8, n_9, n_10, n_12, n_40, n_48, n_57, n_59, n_72, n_99, n_102, n_103, n_107, n_108, n_192, n_255, n_256, n_999, n_1000, n_104, nI_add, pk_mul, n_cl, n_inT, n_le, n_lt, n_eq, n_m1, n_m1', n_lem1, n_m1le, n_ltm1, n_m1lt, n_lepred, n_shl, fa_or, hP.1.1]
      exact ⟨fun z => back (fun y => by omega), fun z => back (fun y => by omega)⟩
  · -- 36
    intro as σ0 Z h0 μ L S σ hI
    obtain ⟨rfl, x, f, fuel, n, s, p, q, u, v, w, rfl, hs, hR, hP, hH, hf, he, hn, hpot, hp, rfl, hp2, hpq, hq9, hq, rfl⟩ := hI
    have back : ∀ v, (s = 0 → q = ab_hc a) → ∃ μ', ra_lx μ' (fuel, if s = 1 then 6 else 3, (ab_hc a - p) * 10 + (ab_hc a - q)) ∧ I_N_marketOf a Z [.ref 82, .int x] σ0 17 μ' [.ref 82, .int x, .int (nI n), .int (nI s), .int (nI (p + 1)), .int v, w] [] σ := by
      intro v z
      refine ⟨(fuel, if s = 1 then 5 else 3, (ab_hc a - (p + 1)) * 10 + 9), ?_, rfl, x, f, fuel, n, s, p + 1, q, u, _, w, rfl, hs, hR, hP, hH, hf, he, hn, hpot, by omega, rfl, fun z2 j hj => ?_, rfl⟩
      · rcases (show s = 0 ∨ s = 1 by omega) with rfl | rfl
        · exact lx3 (by omega)
        · exact lx2 (by decide)
      · by_cases y : j < 8 * p + q
        · exact hq z2 j y
        · refine mk_p_no (fun y2 => ?_)
          have := z z2
          omega
    rcases (show s = 0 ∨ s = 1 by omega) with rfl | rfl
    · by_cases hlt : q < ab_hc a
      · have hfp := hH p hp2
        have hfq := hH q hlt
        simp (disch := omega) only [b_N_marketOf_182, b_N_marketOf_176, b_N_marketOf_171, b_N_marketOf_165, b_N_marketOf_161, b_N_marketOf_156, b_N_marketOf_127, b_N_marketOf_118, b_N_marketOf_112, b_N_marketOf_109, b_N_marketOf_103, b_N_marketOf_97, b_N_marketOf_60, b_N_marketOf_49, b_N_marketOf_45, b_N_marketOf_36, b_N_marketOf_30, b_N_marketOf_26, b_N_marketOf_17, b_N_marketOf_12, b_N_marketOf_8, b_N_marketOf_0, e_al0, e_il1, e_il4, e_il2, e_il5, e_il6, e_il3, e_is4i, e_is4r, e_is4n, e_is5i, e_is5r, e_is5n, e_is6i, e_is6r, e_is6n, e_is3i, e_is3r, e_is3n, e_is2i, e_is2r, e_is2n, e_inc5i, e_inc5r, e_inc5n, e_inc4i, e_inc4r, e_inc4n, e_inc2i, e_inc2r, e_inc2n, e_c, e_i2, e_b1, e_b2, e_gi, e_gr, e_ald, e_ast, e_ir, e_cv3, e_hd, e_cv1, e_c10, e_c1i, e_c1r, e_sh0, e_sh1, e_sh2, e_sh3, e_sh4, e_tls, e_tln, e_tl0, e_tl1, cl_82, cl_100, ln_100, cl_101, ln_101, tg_82_19, tg_82_20, q_N_hasAsTold, q_N_doWant, Nat.reduceAdd, true_and, and_true, true_implies, not_true_eq_false, false_implies, not_false_eq_true, imp_self, forall_const, List.append_nil, ra_I, ra_J, ra_pad, true_or, or_true, Nat.reduceEqDiff, ra_bz, eq_self, if_true, if_false, false_and, and_false, Nat.zero_le, List.cons_append, List.nil_append, Nat.reduceLT, Nat.reduceLeDiff, Nat.reduceMul, Nat.reduceSub, n_0, n_1, n_2, n_3, n_4, n_5, n_6, n_7, n_8, n_9, n_10, n_12, n_40, n_48, n_57, n_59, n_72, n_99, n_102, n_103, n_107, n_108, n_192, n_255, n_256, n_999, n_1000, n_104, nI_add, pk_mul, n_cl, n_inT, n_le, n_lt, n_eq, n_m1, n_m1', n_lem1, n_m1le, n_ltm1, n_m1lt, n_lepred, n_shl, fa_or, hP.1.1, sw_at, hfp.1, hfq.1]
        refine ⟨fun z => by omega, fun _ => ⟨hR, f, hH, an_hs_nI hp2, an_hs_nI hlt, fun z => ?_, fun z => ?_⟩⟩
        · have hff : fa_first (mk_p a f) 64 = 8 * p + q := fa_first_eq (hq rfl) (by omega) (mk_p_iff.mpr (by
            rw [show (8 * p + q) / 8 = p by omega, show (8 * p + q) % 8 = q by omega]
            exact ⟨by omega, hlt, z⟩))
          have hps := mk_pot_sw hp2 hlt (by omega) z
          have hp72 := mk_pot_72 hW (mk_sw f p q)
          cases fuel with
          | zero => omega
          | succ fuel =>
            rw [mk_run, hff, if_pos (by omega), show (8 * p + q) / 8 = p by omega, show (8 * p + q) % 8 = q by omega] at he
            have hf1 : ra_fr [101] σ (ra_sw (ra_sw σ 101 p (nI (f q))) 101 q (nI (f p))) := (ra_fr.rf.sw (by decide) (by decide)).sw (by decide) (by decide)
            refine ⟨(fuel, 6, (ab_hc a - p) * 10 + (ab_hc a - (q + 1))), lx1 (by omega), rfl, x, mk_sw f p q, fuel, n + 1, 1, p, q + 1, u, v, _, rfl, by omega, hR.fr hf1 (by decide), hP.fr hf1 (by simp [sw_at]) (by decide), fun j hj => ?_, hf.tr hf1 (by decide), by rw [he]; simp only [Prod.mk.injEq, true_and]; omega, by omega, by omega, hp, rfl, hp2, by omega, by omega, fun y => by omega, rfl⟩
            have := hH j hj
            unfold mk_sw
            simp only [sw_at, if_true]
            by_cases e : j = q
            · rw [if_pos e, if_neg (by omega), if_pos e]
              exact ⟨rfl, hfp.2⟩
            · rw [if_neg e, if_neg e]
              by_cases e2 : j = p
              · rw [if_pos e2, if_pos e2]
                exact ⟨rfl, hfq.2⟩
              · rw [if_neg e2, if_neg e2]
                exact this
        · refine ⟨(fuel, 3, (ab_hc a - p) * 10 + (ab_hc a - (q + 1))), lx3 (by omega), rfl, x, f, fuel, n, 0, p, q + 1, u, v, w, rfl, by omega, hR, hP, hH, hf, he, hn, hpot, hp, rfl, hp2, by omega, by omega, fun _ j hj => ?_, rfl⟩
          rcases (show j < 8 * p + q ∨ j = 8 * p + q by omega) with y | rfl
          · exact hq rfl j y
          · refine mk_p_no (fun y2 => z ?_)
            rw [show (8 * p + q) / 8 = p by omega, show (8 * p + q) % 8 = q by omega] at y2
            exact y2.2.2
      · simp (disch := omega) only [b_N_marketOf_182, b_N_marketOf_176, b_N_marketOf_171, b_N_marketOf_165, b_N_marketOf_161, b_N_marketOf_156, b_N_marketOf_127, b_N_marketOf_118, b_N_marketOf_112, b_N_marketOf_109, b_N_marketOf_103, b_N_marketOf_97, b_N_marketOf_49, b_N_marketOf_45, b_N_marketOf_36, b_N_marketOf_30, b_N_marketOf_26, b_N_marketOf_17, b_N_marketOf_12, b_N_marketOf_8, b_N_marketOf_0, e_al0, e_il1, e_il4, e_il2, e_il5, e_il6, e_il3, e_is4i, e_is4r, e_is4n, e_is5i, e_is5r, e_is5n, e_is6i, e_is6r, e_is6n, e_is3i, e_is3r, e_is3n, e_is2i, e_is2r, e_is2n, e_inc5i, e_inc5r, e_inc5n, e_inc4i, e_inc4r, e_inc4n, e_inc2i, e_inc2r, e_inc2n, e_c, e_i2, e_b1, e_b2, e_gi, e_gr, e_ald, e_ast, e_ir, e_cv3, e_hd, e_cv1, e_c10, e_c1i, e_c1r, e_sh0, e_sh1, e_sh2, e_sh3, e_sh4, e_tls, e_tln, e_tl0, e_tl1, cl_82, cl_100, ln_100, cl_101, ln_101, tg_82_19, tg_82_20, q_N_hasAsTold, q_N_doWant, Nat.reduceAdd, true_and, and_true, true_implies, not_true_eq_false, false_implies, not_false_eq_true, imp_self, forall_const, List.append_nil, ra_I, ra_J, ra_pad, true_or, or_true, Nat.reduceEqDiff, ra_bz, eq_self, if_true, if_false, false_and, and_false, Nat.zero_le, List.cons_append, List.nil_append, Nat.reduceLT, Nat.reduceLeDiff, Nat.reduceMul, Nat.reduceSub, n_0, n_1, n_2, n_3, n_4, n_5, n_6, n_7, n_8, n_9, n_10, n_12, n_40, n_48, n_57, n_59, n_72, n_99, n_102, n_103, n_107, n_108, n_192, n_255, n_256, n_999, n_1000, n_104, nI_add, pk_mul, n_cl, n_inT, n_le, n_lt, n_eq, n_m1, n_m1', n_lem1, n_m1le, n_ltm1, n_m1lt, n_lepred, n_shl, fa_or, hP.1.1]
        exact ⟨fun z => back _ (fun _ => by omega), fun z => by omega⟩
    · simp (disch := omega) only [b_N_marketOf_182, b_N_marketOf_176, b_N_marketOf_171, b_N_marketOf_165, b_N_marketOf_161, b_N_marketOf_156, b_N_marketOf_127, b_N_marketOf_118, b_N_marketOf_112, b_N_marketOf_109, b_N_marketOf_103, b_N_marketOf_97, b_N_marketOf_49, b_N_marketOf_45, b_N_marketOf_36, b_N_marketOf_30, b_N_marketOf_26, b_N_marketOf_17, b_N_marketOf_12, b_N_marketOf_8, b_N_marketOf_0, e_al0, e_il1, e_il4, e_il2, e_il5, e_il6, e_il3, e_is4i, e_is4r, e_is4n, e_is5i, e_is5r, e_is5n, e_is6i, e_is6r, e_is6n, e_is3i, e_is3r, e_is3n, e_is2i, e_is2r, e_is2n, e_inc5i, e_inc5r, e_inc5n, e_inc4i, e_inc4r, e_inc4n, e_inc2i, e_inc2r, e_inc2n, e_c, e_i2, e_b1, e_b2, e_gi, e_gr, e_ald, e_ast, e_ir, e_cv3, e_hd, e_cv1, e_c10, e_c1i, e_c1r, e_sh0, e_sh1, e_sh2, e_sh3, e_sh4, e_tls, e_tln, e_tl0, e_tl1, cl_82, cl_100, ln_100, cl_101, ln_101, tg_82_19, tg_82_20, q_N_hasAsTold, q_N_doWant, Nat.reduceAdd, true_and, and_true, true_implies, not_true_eq_false, false_implies, not_false_eq_true, imp_self, forall_const, List.append_nil, ra_I, ra_J, ra_pad, true_or, or_true, Nat.reduceEqDiff, ra_bz, eq_self, if_true, if_false, false_and, and_false, Nat.zero_le, List.cons_append, List.nil_append, Nat.reduceLT, Nat.reduceLeDiff, Nat.reduceMul, Nat.reduceSub, n_0, n_1, n_2, n_3, n_4, n_5, n_6, n_7, n_8, n_9, n_10, n_12, n_40, n_48, n_57, n_59, n_72, n_99, n_102, n_103, n_107, n_108, n_192, n_255, n_256, n_999, n_1000, n_104, nI_add, pk_mul, n_cl, n_inT, n_le, n_lt, n_eq, n_m1, n_m1', n_lem1, n_m1le, n_ltm1, n_m1lt, n_lepred, n_shl, fa_or, hP.1.1]
      exact ⟨fun z => back _ (fun y => by omega), fun z => back _ (fun y => by omega)⟩
  · -- 118
    intro as σ0 Z h0 μ L S σ hI
    obtain ⟨rfl, x, f, fuel, n, s, p, q, u, v, w, rfl, hs, hR, hP, hH, hf, he, hn, hpot, hp, rfl, hq, rfl⟩ := hI
    obtain ⟨_, e, hR0, hx, hZ⟩ := x_f1 h0
    cases e
    have he2 : mk_end a = (f, n) := by
      rw [he]
      cases fuel with
      | zero => rfl
      | succ fuel =>
        rw [mk_run, if_neg (by omega)]
        rfl
    by_cases hlt : p < ab_hc a
    · have hfp := hH p hlt
      simp (disch := omega) only [b_N_marketOf_182, b_N_marketOf_176, b_N_marketOf_171, b_N_marketOf_165, b_N_marketOf_161, b_N_marketOf_156, b_N_marketOf_127, b_N_marketOf_118, b_N_marketOf_112, b_N_marketOf_109, b_N_marketOf_103, b_N_marketOf_97, b_N_marketOf_60, b_N_marketOf_49, b_N_marketOf_45, b_N_marketOf_36, b_N_marketOf_30, b_N_marketOf_26, b_N_marketOf_17, b_N_marketOf_12, b_N_marketOf_8, b_N_marketOf_0, e_al0, e_il1, e_il4, e_il2, e_il5, e_il6, e_il3, e_is4i, e_is4r, e_is4n, e_is5i, e_is5r, e_is5n, e_is6i, e_is6r, e_is6n, e_is3i, e_is3r, e_is3n, e_is2i, e_is2r, e_is2n, e_inc5i, e_inc5r, e_inc5n, e_inc4i, e_inc4r, e_inc4n, e_inc2i, e_inc2r, e_inc2n, e_c, e_i2, e_b1, e_b2, e_gi, e_gr, e_ald, e_ast, e_ir, e_cv3, e_hd, e_cv1, e_c10, e_c1i, e_c1r, e_sh0, e_sh1, e_sh2, e_sh3, e_sh4, e_tls, e_tln, e_tl0, e_tl1, cl_82, cl_100, ln_100, cl_101, ln_101, tg_82_19, tg_82_20, q_N_hasAsTold, q_N_doWant, Nat.reduceAdd, true_and, and_true, true_implies, not_true_eq_false, false_implies, not_false_eq_true, imp_self, forall_const, List.append_nil, ra_I, ra_J, ra_pad, true_or, or_true, Nat.reduceEqDiff, ra_bz, eq_self, if_true, if_false, false_and, and_false, Nat.zero_le, List.cons_append, List.nil_append, Nat.reduceLT, Nat.reduceLeDiff, Nat.reduceMul, Nat.reduceSub, n_0, n_1, n_2, n_3, n_4, n_5, n_6, n_7, n_8, n_9, n_10, n_12, n_40, n_48, n_57, n_59, n_72, n_99, n_102, n_103, n_107, n_108, n_192, n_255, n_256, n_999, n_1000, n_104, nI_add, pk_mul, n_cl, n_inT, n_le, n_lt, n_eq, n_m1, n_m1', n_lem1, n_m1le, n_ltm1, n_m1lt, n_lepred, n_shl, fa_or, hP.1.1, hfp.1, hR.2.2.2.2.2.1 (8 * p + f p) (by have := hfp.2; omega)]
      have := hfp.2
      refine ⟨fun z => by omega, fun _ => ?_⟩
      exact ⟨(fuel, 0, ab_hc a - (p + 1)), lx3 (by omega), rfl, x, f, fuel, n, s, p + 1, q, u, v, w, rfl, hs, hR, hP, hH, hf, he, hn, hpot, by omega, rfl, hq, rfl⟩
    · have h9 := hZ σ hP hf
      unfold an_mk at h9
      rw [he2] at h9
      have hpe : p = ab_hc a := by omega
      subst hpe
      simp (disch := omega) only [b_N_marketOf_182, b_N_marketOf_176, b_N_marketOf_171, b_N_marketOf_165, b_N_marketOf_161, b_N_marketOf_156, b_N_marketOf_127, b_N_marketOf_118, b_N_marketOf_112, b_N_marketOf_109, b_N_marketOf_103, b_N_marketOf_97, b_N_marketOf_60, b_N_marketOf_49, b_N_marketOf_45, b_N_marketOf_36, b_N_marketOf_30, b_N_marketOf_26, b_N_marketOf_17, b_N_marketOf_12, b_N_marketOf_8, b_N_marketOf_0, e_al0, e_il1, e_il4, e_il2, e_il5, e_il6, e_il3, e_is4i, e_is4r, e_is4n, e_is5i, e_is5r, e_is5n, e_is6i, e_is6r, e_is6n, e_is3i, e_is3r, e_is3n, e_is2i, e_is2r, e_is2n, e_inc5i, e_inc5r, e_inc5n, e_inc4i, e_inc4r, e_inc4n, e_inc2i, e_inc2r, e_inc2n, e_c, e_i2, e_b1, e_b2, e_gi, e_gr, e_ald, e_ast, e_ir, e_cv3, e_hd, e_cv1, e_c10, e_c1i, e_c1r, e_sh0, e_sh1, e_sh2, e_sh3, e_sh4, e_tls, e_tln, e_tl0, e_tl1, cl_82, cl_100, ln_100, cl_101, ln_101, tg_82_19, tg_82_20, q_N_hasAsTold, q_N_doWant, Nat.reduceAdd, true_and, and_true, true_implies, not_true_eq_false, false_implies, not_false_eq_true, imp_self, forall_const, List.append_nil, ra_I, ra_J, ra_pad, true_or, or_true, Nat.reduceEqDiff, ra_bz, eq_self, if_true, if_false, false_and, and_false, Nat.zero_le, List.cons_append, List.nil_append, Nat.reduceLT, Nat.reduceLeDiff, Nat.reduceMul, Nat.reduceSub, n_0, n_1, n_2, n_3, n_4, n_5, n_6, n_7, n_8, n_9, n_10, n_12, n_40, n_48, n_57, n_59, n_72, n_99, n_102, n_103, n_107, n_108, n_192, n_255, n_256, n_999, n_1000, n_104, nI_add, pk_mul, n_cl, n_inT, n_le, n_lt, n_eq, n_m1, n_m1', n_lem1, n_m1le, n_ltm1, n_m1lt, n_lepred, n_shl, fa_or, hP.1.1]
      refine ⟨fun _ => ⟨fun z => ?_, fun z => ⟨fun z2 => ?_, fun z2 => ?_⟩⟩, fun z => absurd (Nat.le_refl _) z⟩
      · rw [if_pos (show x = -1 from z)] at h9
        exact h9
      · rw [if_neg (show ¬ x = -1 from z), if_pos (show x = -2 from z2)] at h9
        exact h9
      · rw [if_neg (show ¬ x = -1 from z), if_neg (show ¬ x = -2 from z2)] at h9
        have hx2 : an_hs a x := by
          rcases hx with y | y | y
          · exact y
          · exact absurd y z
          · exact absurd y z2
        obtain ⟨m, hm, rfl⟩ := an_hs_of hx2
        rw [n_cl (by omega)] at h9 ⊢
        rw [(hH m hm).1]
        exact ⟨vi (by omega) (by decide), h9⟩
noncomputable def an_market (a : Ab) (x : Int32) : Int32 := by
  classical
  exact if an_hs a x ∨ x = -1 ∨ x = -2 then an_mk a x else -2
theorem an_market_yes {a : Ab} {x : Int32} (h : an_hs a x ∨ x = -1 ∨ x = -2) : an_market a x = an_mk a x := by
  unfold an_market
  exact if_pos h
theorem an_market_no {a : Ab} {x : Int32} (h : ¬ (an_hs a x ∨ x = -1 ∨ x = -2)) : an_market a x = -2 := by
  unfold an_market
  exact if_neg h
theorem an_m12 {x : Int32} : (-2 ≤ x ∧ x ≤ -1) ↔ (x = -1 ∨ x = -2) := by
  have e1 : (-1 : Int32).toInt = -1 := by decide
  have e2 : (-2 : Int32).toInt = -2 := by decide
  rw [fa_le, fa_le, fa_eq, fa_eq, e1, e2]
  omega
def sp_N_market (a : Ab) : ra_Sp := ra_f1 82 (fun x σ Z => rn_R a σ ∧ ∀ σ', ra_fr rn_scr σ σ' → Z (some (.int (an_market a x))) σ')
theorem q_N_market {a : Ab} {oo : Nat} {x : Int32} {σ : ra_St} {Z : ra_R} : sp_N_market a [.ref oo, .int x] σ Z = (oo = 82 ∧ (rn_R a σ ∧ ∀ σ', ra_fr rn_scr σ σ' → Z (some (.int (an_market a x))) σ')) := rfl
theorem k_N_market {l : Launch} {X : ra_X} {a : Ab} (hW : ab_W a) : ra_MOK l X mi_N_market (sp_N_market a) := by
  refine g_N_market k_N_in (k_N_isHouse hW) (k_N_marketOf hW) (sp_N_market a) ?_
  intro as σ Z _ _ h
  obtain ⟨x, rfl, hR, hZ⟩ := x_f1 h
  simp (disch := omega) only [b_N_market_28, b_N_market_26, b_N_market_18, b_N_market_10, b_N_market_0, e_al0, e_il1, e_c, e_b1, e_ir, e_cs3, e_cv2, e_hd, e_c10, e_c1i, e_c1r, e_sh0, e_sh1, e_sh2, e_sh3, e_sh4, e_tls, e_tln, e_tl0, e_tl1, cl_82, q_N_in, q_N_isHouse, q_N_marketOf, Nat.reduceAdd, true_and, and_true, true_implies, not_true_eq_false, false_implies, not_false_eq_true, imp_self, forall_const, List.append_nil, ra_I, ra_J, ra_pad, true_or, or_true, Nat.reduceEqDiff, ra_bz, eq_self, if_true, if_false, false_and, and_false, Nat.zero_le, List.cons_append, List.nil_append, Nat.reduceLT, Nat.reduceLeDiff, Nat.reduceMul, Nat.reduceSub, n_0, n_1, n_2, n_3, n_4, n_5, n_6, n_7, n_8, n_9, n_10, n_12, n_40, n_48, n_57, n_59, n_72, n_99, n_102, n_103, n_107, n_108, n_192, n_255, n_256, n_999, n_1000, n_104, nI_add, pk_mul, n_cl, n_in, n_le, n_lt, n_eq, n_m1, n_m1', n_lem1, n_m1le, n_ltm1, n_m1lt, n_lepred, n_shl, fa_or]
  have yes : ∀ σ0, ra_fr rn_scr σ σ0 → (an_hs a x ∨ x = -1 ∨ x = -2) → ∀ σ', rn_P a σ' → ra_fr rn_scr σ0 σ' → Z (some (.int (an_mk a x))) σ' := by
    intro σ0 g0 q σ' g1 g2
    have h9 := hZ σ' (g0.tr g2 (by decide))
    rw [an_market_yes q] at h9
    exact h9
  refine ⟨fun q => ?_, fun q => ⟨hR.1, fun σ1 g1 g2 => ⟨fun q2 => ⟨hR.fr g2 (by decide), Or.inl q2, yes σ1 (g2.mono (by decide)) (Or.inl q2)⟩, fun q2 => ?_⟩⟩⟩
  · have q := an_m12.mp q
    exact ⟨hR, Or.inr q, yes σ ra_fr.rf (Or.inr q)⟩
  · have h9 := hZ σ1 (g2.mono (by decide))
    rw [an_market_no (fun z => by
      rcases z with z | z
      · exact q2 z
      · exact q (an_m12.mpr z))] at h9
    exact h9
