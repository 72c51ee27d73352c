/-! the class: the best way -/
def sp_Ex_had (a : Ab) : ra_Sp := ra_f3 41 (fun x y z σ Z => rc_X a σ ∧ ∃ h r s : Nat, x = nI h ∧ y = nI r ∧ z = nI s ∧ h < 8 ∧ r < 8 ∧ s < 256 ∧ Z (some (.int (nI (mk_w a h r) + σ 53 (s ||| 2 ^ r)))) σ)
theorem q_Ex_had {a : Ab} {oo : Nat} {x y z : Int32} {σ : ra_St} {Z : ra_R} : sp_Ex_had a [.ref oo, .int x, .int y, .int z] σ Z = (oo = 41 ∧ (rc_X a σ ∧ ∃ h r s : Nat, x = nI h ∧ y = nI r ∧ z = nI s ∧ h < 8 ∧ r < 8 ∧ s < 256 ∧ Z (some (.int (nI (mk_w a h r) + σ 53 (s ||| 2 ^ r)))) σ)) := rfl
theorem k_Ex_had {l : Launch} {X : ra_X} {a : Ab} : ra_MOK l X mi_Ex_had (sp_Ex_had a) := by
  refine g_Ex_had (sp_Ex_had a) ?_
  intro as σ Z _ _ h0
  obtain ⟨_, _, _, rfl, hX, h, r, s, rfl, rfl, rfl, hh, hr, hs, hZ⟩ := x_f3 h0
  obtain ⟨t1, t2, t3⟩ := tg_w h hh
  have hlt : s ||| 2 ^ r < 256 := Nat.or_lt_two_pow (n := 8) hs (Nat.pow_lt_pow_right (by decide) hr)
  simp (disch := omega) only [b_Ex_had_0, e_al0, e_il1, e_il2, e_il3, e_c, e_i2, e_gr, e_ald, e_rld, e_ir, cl_41, cl_42, ln_42, cl_53, ln_53, tg_41_1, tg_41_4, Nat.reduceAdd, true_and, and_true, true_implies, not_true_eq_false, false_implies, not_false_eq_true, imp_self, forall_const, List.append_nil, ra_I, ra_J, ra_pad, true_or, or_true, Nat.reduceEqDiff, ra_bz, eq_self, if_true, if_false, false_and, and_false, Nat.zero_le, List.cons_append, List.nil_append, Nat.reduceLT, Nat.reduceLeDiff, Nat.reduceMul, Nat.reduceSub, n_0, n_1, n_2, n_3, n_4, n_5, n_6, n_7, n_8, n_9, n_10, n_12, n_40, n_48, n_57, n_59, n_72, n_99, n_102, n_103, n_107, n_108, n_192, n_255, n_256, n_999, n_1000, n_104, nI_add, pk_mul, n_cl, n_inT, n_le, n_lt, n_eq, n_m1, n_m1', n_lem1, n_m1le, n_ltm1, n_m1lt, n_lepred, n_shl, fa_or, t1, t2, t3, hX h r hh hr]
  exact hZ
def bro (g : Nat → Nat) (p : Nat → Bool) : Nat → Nat
  | 0 => 0
  | n + 1 => if p n = true ∧ (fb_ct p n = 0 ∨ bmx g p n < g n) then n else bro g p n
theorem bro_at {g : Nat → Nat} {p : Nat → Bool} : ∀ {n : Nat}, fb_ct p n ≠ 0 → bro g p n < n ∧ p (bro g p n) = true ∧ g (bro g p n) = bmx g p n ∧ ∀ r, r < bro g p n → p r = true → g r < bmx g p n
  | 0, h => absurd rfl h
  | n + 1, h => by
    by_cases h0 : fb_ct p n = 0
    · have hp : p n = true := by
        cases e : p n with
        | true => rfl
        | false => rw [fb_ct_succ, h0, e] at h; exact absurd rfl h
      have hb : bmx g p n = 0 := bmx_none (fb_ct_zero.mp h0)
      rw [bro, if_pos ⟨hp, Or.inl h0⟩, bmx]
      refine ⟨by omega, hp, ?_, fun r hr hpr => ?_⟩
      · split
        · rfl
        · next z =>
          have : ¬ bmx g p n < g n := fun y => z ⟨hp, y⟩
          omega
      · have := fb_ct_zero.mp h0 r hr
        rw [hpr] at this
        cases this
    · obtain ⟨k1, k2, k3, k4⟩ := bro_at (g := g) h0
      rw [bro, bmx]
      by_cases hc : p n = true ∧ bmx g p n < g n
      · rw [if_pos ⟨hc.1, Or.inr hc.2⟩, if_pos hc]
        refine ⟨by omega, hc.1, rfl, fun r hr hpr => ?_⟩
        have := bmx_ge (g := g) hr hpr
        omega
      · rw [if_neg (fun z => z.2.elim h0 (fun y => hc ⟨z.1, y⟩)), if_neg hc]
        exact ⟨by omega, k2, k3, k4⟩
def bg (a : Ab) (h s : Nat) : Nat → Nat := fun r => mk_w a h r + bV a (s ||| 2 ^ r)
def bp (s : Nat) : Nat → Bool := fun r => !s.testBit r
def sp_Ex_bestRoof (a : Ab) : ra_Sp := ra_f2 41 (fun x z σ Z => rc_V a σ ∧ rc_X a σ ∧ ∃ h s : Nat, x = nI h ∧ z = nI s ∧ h < 8 ∧ s < 256 ∧ (∀ r, r < ab_hc a → s.testBit r = false → σ 53 (s ||| 2 ^ r) = nI (bV a (s ||| 2 ^ r))) ∧ Z (some (.int (nI (bro (bg a h s) (bp s) (ab_hc a))))) σ)
theorem q_Ex_bestRoof {a : Ab} {oo : Nat} {x z : Int32} {σ : ra_St} {Z : ra_R} : sp_Ex_bestRoof a [.ref oo, .int x, .int z] σ Z = (oo = 41 ∧ (rc_V a σ ∧ rc_X a σ ∧ ∃ h s : Nat, x = nI h ∧ z = nI s ∧ h < 8 ∧ s < 256 ∧ (∀ r, r < ab_hc a → s.testBit r = false → σ 53 (s ||| 2 ^ r) = nI (bV a (s ||| 2 ^ r))) ∧ Z (some (.int (nI (bro (bg a h s) (bp s) (ab_hc a))))) σ)) := rfl
def I_Ex_bestRoof (a : Ab) (Z : ra_R) (as : List Value) (σ0 : ra_St) (t : Nat) (μ : ra_M) : ra_K := fun L S σ => S = [] ∧ σ = σ0 ∧ ∃ h s r : Nat, as = [.ref 41, .int (nI h), .int (nI s)] ∧ h < 8 ∧ s < 256 ∧ r ≤ ab_hc a ∧ μ = (ab_hc a - r, 0, 0) ∧ L = [.ref 41, .int (nI h), .int (nI s), .int (nI (bro (bg a h s) (bp s) r)), .int (bmI (bg a h s) (bp s) r), .int (nI r)]
theorem k_Ex_bestRoof {l : Launch} {X : ra_X} {a : Ab} (hW : ab_W a) : ra_MOK l X mi_Ex_bestRoof (sp_Ex_bestRoof a) := by
  have h8 := ab_hc_8 a
  refine g_Ex_bestRoof k_R_has (k_Ex_had (a := a)) (sp_Ex_bestRoof a) (I_Ex_bestRoof a) ?_ ?_
  · intro as σ Z _ _ h0
    obtain ⟨_, _, rfl, hV, hX, h, s, rfl, rfl, hh, hs, hF, hZ⟩ := x_f2 h0
    simp (disch := omega) only [b_Ex_bestRoof_61, b_Ex_bestRoof_55, b_Ex_bestRoof_42, b_Ex_bestRoof_29, b_Ex_bestRoof_20, b_Ex_bestRoof_8, b_Ex_bestRoof_0, e_il3, e_al0, e_il1, e_il5, e_il2, e_il4, e_is4i, e_is4r, e_is4n, e_is3i, e_is3r, e_is3n, e_is5i, e_is5r, e_is5n, e_inc5i, e_inc5r, e_inc5n, e_c, e_b1, e_b2, e_gi, e_gr, e_ir, e_cs2, e_cv4, e_hd, e_c10, e_c1i, e_c1r, e_sh0, e_sh1, e_sh2, e_sh3, e_sh4, e_tls, e_tln, e_tl0, e_tl1, cl_1, cl_41, tg_41_0, q_R_has, q_Ex_had, Nat.reduceAdd, true_and, and_true, true_implies, not_true_eq_false, false_implies, not_false_eq_true, imp_self, forall_const, List.append_nil, ra_I, ra_J, ra_pad, true_or, or_true, Nat.reduceEqDiff, ra_bz, eq_self, if_true, if_false, false_and, and_false, Nat.zero_le, List.cons_append, List.nil_append, Nat.reduceLT, Nat.reduceLeDiff, Nat.reduceMul, Nat.reduceSub, n_0, n_1, n_2, n_3, n_4, n_5, n_6, n_7, n_8, n_9, n_10, n_12, n_40, n_48, n_57, n_59, n_72, n_99, n_102, n_103, n_107, n_108, n_192, n_255, n_256, n_999, n_1000, n_104, nI_add, pk_mul, n_cl, n_inT, n_le, n_lt, n_eq, n_m1, n_m1', n_lem1, n_m1le, n_ltm1, n_m1lt, n_lepred, n_shl, fa_or]
    exact ⟨_, rfl, rfl, h, s, 0, rfl, hh, hs, by omega, rfl, rfl⟩
  · intro as σ0 Z h0 μ L S σ hI
    obtain ⟨rfl, rfl, h, s, r, rfl, hh, hs, hr, rfl, rfl⟩ := hI
    obtain ⟨_, _, e, hV, hX, h', s', e1, e2, hh', hs', hF, hZ⟩ := x_f2 h0
    cases e
    rw [n_eq (by omega) (by omega)] at e1 e2
    subst e1
    subst e2
    have hg : ∀ r, bg a h s r < 100000 := by
      intro r
      have := hW.2.2.2.2.2.2.2.2.2.1 (8 * h + r)
      have := bV_le hW (s ||| 2 ^ r)
      show a 6 (8 * h + r) + bV a (s ||| 2 ^ r) < 100000
      omega
    by_cases hlt : r < ab_hc a
    · simp (disch := omega) only [b_Ex_bestRoof_55, b_Ex_bestRoof_42, b_Ex_bestRoof_29, b_Ex_bestRoof_20, b_Ex_bestRoof_8, b_Ex_bestRoof_0, e_il3, e_al0, e_il1, e_il5, e_il2, e_il4, e_is4i, e_is4r, e_is4n, e_is3i, e_is3r, e_is3n, e_is5i, e_is5r, e_is5n, e_inc5i, e_inc5r, e_inc5n, e_c, e_b1, e_b2, e_gi, e_gr, e_ir, e_cs2, e_cv4, e_hd, e_c10, e_c1i, e_c1r, e_sh0, e_sh1, e_sh2, e_sh3, e_sh4, e_tls, e_tln, e_tl0, e_tl1, cl_1, cl_41, tg_41_0, q_R_has, q_Ex_had, Nat.reduceAdd, true_and, and_true, true_implies, not_true_eq_false, false_implies, not_false_eq_true, imp_self, forall_const, List.append_nil, ra_I, ra_J, ra_pad, true_or, or_true, Nat.reduceEqDiff, ra_bz, eq_self, if_true, if_false, false_and, and_false, Nat.zero_le, List.cons_append, List.nil_append, Nat.reduceLT, Nat.reduceLeDiff, Nat.reduceMul, Nat.reduceSub, n_0, n_1, n_2, n_3, n_4, n_5, n_6, n_7, n_8, n_9, n_10, n_12, n_40, n_48, n_57, n_59, n_72, n_99, n_102, n_103, n_107, n_108, n_192, n_255, n_256, n_999, n_1000, n_104, nI_add, pk_mul, n_cl, n_inT, n_le, n_lt, n_eq, n_m1, n_m1', n_lem1, n_m1le, n_ltm1, n_m1lt, n_lepred, n_shl, fa_or, hV.2.1.1]
      refine ⟨fun q => by omega, fun _ => ⟨fun q => ⟨(ab_hc a - (r + 1), 0, 0), lx1 (by omega), rfl, rfl, h, s, r + 1, rfl, hh, hs, by omega, rfl, ?_⟩, fun q => ?_⟩⟩
      · have hp : bp s r = false := by unfold bp; rw [q]; rfl
        rw [bmI_no hp, bro, if_neg (fun z => by rw [hp] at z; exact absurd z.1 (by decide))]
      · have hp : bp s r = true := by unfold bp; rw [ts_nt' q]; rfl
        have hv := hF r hlt (ts_nt' q)
        obtain ⟨y1, y2⟩ := bmI_yes (g := bg a h s) hg hp
        have eg : nI (mk_w a h r) + σ 53 (s ||| 2 ^ r) = nI (bg a h s r) := by rw [hv, nI_add]; rfl
        refine ⟨hX, h, r, s, rfl, rfl, rfl, hh, by omega, hs, ?_⟩
        rw [eg]
        refine ⟨fun z => ⟨(ab_hc a - (r + 1), 0, 0), lx1 (by omega), rfl, rfl, h, s, r + 1, rfl, hh, hs, by omega, rfl, ?_⟩, fun z => ⟨hX, h, r, s, rfl, rfl, rfl, hh, by omega, hs, (ab_hc a - (r + 1), 0, 0), lx1 (by omega), rfl, rfl, h, s, r + 1, rfl, hh, hs, by omega, rfl, ?_⟩⟩
        · rw [y1 z, bro, if_neg]
          intro w
          unfold bmI at z
          rcases w.2 with w2 | w2
          · rw [if_pos w2] at z
            have : (nI (bg a h s r) ≤ -nI 1) = False := n_lem1 (by have := hg r; omega)
            exact this ▸ z
          · split at z
            · have : (nI (bg a h s r) ≤ -nI 1) = False := n_lem1 (by have := hg r; omega)
              exact this ▸ z
            · have hb := bmx_le (p := bp s) (c := 100000) (fun r => Nat.le_of_lt (hg r)) r
              have := hg r
              rw [n_le (by omega) (by omega)] at z
              omega
        · rw [y2 z, bro, if_pos, eg]
          refine ⟨hp, ?_⟩
          by_cases w : fb_ct (bp s) r = 0
          · exact Or.inl w
          · refine Or.inr ?_
            unfold bmI at z
            rw [if_neg w] at z
            have hb := bmx_le (p := bp s) (c := 100000) (fun r => Nat.le_of_lt (hg r)) r
            have := hg r
            rw [n_le (by omega) (by omega)] at z
            omega
    · simp (disch := omega) only [b_Ex_bestRoof_61, b_Ex_bestRoof_55, b_Ex_bestRoof_42, b_Ex_bestRoof_29, b_Ex_bestRoof_8, b_Ex_bestRoof_0, e_il3, e_al0, e_il1, e_il5, e_il2, e_il4, e_is4i, e_is4r, e_is4n, e_is3i, e_is3r, e_is3n, e_is5i, e_is5r, e_is5n, e_inc5i, e_inc5r, e_inc5n, e_c, e_b1, e_b2, e_gi, e_gr, e_ir, e_cs2, e_cv4, e_hd, e_c10, e_c1i, e_c1r, e_sh0, e_sh1, e_sh2, e_sh3, e_sh4, e_tls, e_tln, e_tl0, e_tl1, cl_1, cl_41, tg_41_0, q_R_has, q_Ex_had, Nat.reduceAdd, true_and, and_true, true_implies, not_true_eq_false, false_implies, not_false_eq_true, imp_self, forall_const, List.append_nil, ra_I, ra_J, ra_pad, true_or, or_true, Nat.reduceEqDiff, ra_bz, eq_self, if_true, if_false, false_and, and_false, Nat.zero_le, List.cons_append, List.nil_append, Nat.reduceLT, Nat.reduceLeDiff, Nat.reduceMul, Nat.reduceSub, n_0, n_1, n_2, n_3, n_4, n_5, n_6, n_7, n_8, n_9, n_10, n_12, n_40, n_48, n_57, n_59, n_72, n_99, n_102, n_103, n_107, n_108, n_192, n_255, n_256, n_999, n_1000, n_104, nI_add, pk_mul, n_cl, n_inT, n_le, n_lt, n_eq, n_m1, n_m1', n_lem1, n_m1le, n_ltm1, n_m1lt, n_lepred, n_shl, fa_or, hV.2.1.1]
      refine ⟨fun _ => ?_, fun q => by omega⟩
      rw [show r = ab_hc a by omega]
      exact hZ
theorem n_pop_all : ∀ N, N < 9 → ∀ s, s < 256 → s < 2 ^ N → (n_pop s = N ↔ s + 1 = 2 ^ N) := by decide +kernel
theorem bV_top {a : Ab} {s : Nat} (h : s + 1 = 2 ^ ab_hc a) : bV a s = 0 := by
  have h8 := ab_hc_8 a
  have h2 := pow_256 a
  have := (n_pop_all (ab_hc a) (by omega) s (by omega) (by omega)).mpr h
  unfold bV
  rw [this, Nat.sub_self]
  rfl
theorem bro_V {a : Ab} {s : Nat} (h : n_pop s < ab_hc a) : bro (bg a (n_pop s) s) (bp s) (ab_hc a) < ab_hc a ∧ s.testBit (bro (bg a (n_pop s) s) (bp s) (ab_hc a)) = false ∧ bg a (n_pop s) s (bro (bg a (n_pop s) s) (bp s) (ab_hc a)) = bV a s ∧ ∀ r, r < bro (bg a (n_pop s) s) (bp s) (ab_hc a) → s.testBit r = false → bg a (n_pop s) s r < bV a s := by
  have h8 := ab_hc_8 a
  obtain ⟨r, h1, h2⟩ := n_pop_free h8 h
  have hc : fb_ct (bp s) (ab_hc a) ≠ 0 := by
    intro z
    have := fb_ct_zero.mp z r h1
    unfold bp at this
    rw [h2] at this
    cases this
  obtain ⟨k1, k2, k3, k4⟩ := bro_at (g := bg a (n_pop s) s) hc
  have e : bV a s = bmx (bg a (n_pop s) s) (bp s) (ab_hc a) := bV_step h
  refine ⟨k1, ?_, k3.trans e.symm, fun r hr hb => ?_⟩
  · have k5 : (!s.testBit (bro (bg a (n_pop s) s) (bp s) (ab_hc a))) = true := k2
    rw [Bool.not_eq_true'] at k5
    exact k5
  · rw [e]
    exact k4 r hr (by unfold bp; rw [hb]; rfl)
theorem bR_bro {a : Ab} {h : Nat} (hh : h < ab_hc a) : bR a h = bro (bg a h (bS a h)) (bp (bS a h)) (ab_hc a) := by
  have hp := (bS_pop (a := a) h (by omega)).1
  obtain ⟨k1, k2, k3, k4⟩ := bro_V (a := a) (s := bS a h) (by omega)
  rw [hp] at k1 k2 k3 k4
  unfold bR
  refine fa_first_eq (fun r hr => ?_) k1 ?_
  · cases e : (bS a h).testBit r with
    | true => rfl
    | false =>
      have := k4 r hr e
      have e2 : ¬ mk_w a h r + bV a (bS a h ||| 2 ^ r) = bV a (bS a h) := by
        have e3 : bg a h (bS a h) r = mk_w a h r + bV a (bS a h ||| 2 ^ r) := rfl
        omega
      rw [decide_eq_false e2]
      rfl
  · rw [k2, decide_eq_true (show mk_w a h _ + bV a (bS a h ||| 2 ^ _) = bV a (bS a h) from k3)]
    rfl
