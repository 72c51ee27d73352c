/-! the class: the best way -/
def sp_Ex_had (a : Ab) : ra_Sp := ra_f3 41 (fun x y z σ Z => rc_X a σ ∧ ∃ h r s : Nat, x = nI h ∧ y = nI r ∧ z = nI s ∧ h < 8 ∧ r < 8 ∧ s < 256 ∧ Z (some (.int (nI (mk_w a h r) + σ 53 (s ||| 2 ^ r)))) σ)
theorem q_Ex_had {a : Ab} {oo : Nat} {x y z : Int32} {σ : ra_St} {Z : ra_R} : sp_Ex_had a [.ref oo, .int x, .int y, .int z] σ Z = (oo = 41 ∧ (rc_X a σ ∧ ∃ h r s : Nat, x = nI h ∧ y = nI r ∧ z = nI s ∧ h < 8 ∧ r < 8 ∧ s < 256 ∧ Z (some (.int (nI (mk_w a h r) + σ 53 (s ||| 2 ^ r)))) σ)) := rfl
theorem k_Ex_had {l : Launch} {X : ra_X} {a : Ab} : ra_MOK l X mi_Ex_had (sp_Ex_had a) := by
  refine g_Ex_had (sp_Ex_had a) ?_
  intro as σ Z _ _ h0
  obtain ⟨_, _, _, rfl, hX, h, r, s, rfl, rfl, rfl, hh, hr, hs, hZ⟩ := x_f3 h0
  obtain ⟨t1, t2, t3⟩ := tg_w h hh
  have hlt : s ||| 2 ^ r < 256 := Nat.or_lt_two_pow (n := 8) hs (Nat.pow_lt_pow_right (by decide) hr)
  simp (disch := omega) only [b_Ex_had_0, e_al0, e_il1, e_il2, e_il3, e_c, e_i2, e_gr, e_ald, e_rld, e_ir, cl_41, cl_42, ln_42, cl_53, ln_53, tg_41_1, tg_41_4, Nat.reduceAdd, true_and, and_true, true_implies, not_true_eq_false, false_implies, not_false_eq_true, imp_self, forall_const, List.append_nil, ra_I, ra_J, ra_pad, true_or, or_true, Nat.reduceEqDiff, ra_bz, eq_self, if_true, if_false, false_and, and_false, Nat.zero_le, List.cons_append, List.nil_append, Nat.reduceLT, Nat.reduceLeDiff, Nat.reduceMul, Nat.reduceSub, n_0, n_1, n_2, n_3, n_4, n_5, n_6, n_7, n_8, n_9, n_10, n_12, n_40, n_48, n_57, n_59, n_72, n_99, n_102, n_103, n_107, n_108, n_192, n_255, n_256, n_999, n_1000, n_104, nI_add, pk_mul, n_cl, n_inT, n_le, n_lt, n_eq, n_m1, n_m1', n_lem1, n_m1le, n_ltm1, n_m1lt, n_lepred, n_shl, fa_or, t1, t2, t3, hX h r hh hr]
  exact hZ
def bro (g : Nat → Nat) (p : Nat → Bool) : Nat → Nat
  | 0 => 0
  | n + 1 => if p n = true ∧ (fb_ct p n = 0 ∨ bmx g p n < g n) then n else bro g p n
theorem bro_at {g : Nat → Nat} {p : Nat → Bool} : ∀ {n : Nat}, fb_ct p n ≠ 0 → bro g p n < n ∧ p (bro g p n) = true ∧ g (bro g p n) = bmx g p n ∧ ∀ r, r < bro g p n → p r = true → g r < bmx g p n
  | 0, h => absurd rfl h
  | n + 1, h => by
    by_cases h0 : fb_ct p n = 0
    · have hp : p n = true := by
        cases e : p n with
        | true => rfl
        | false => rw [fb_ct_succ, h0, e] at h; exact absurd rfl h
      have hb : bmx g p n = 0 := bmx_none (fb_ct_zero.mp h0)
      rw [bro, if_pos ⟨hp, Or.inl h0⟩, bmx]
      refine ⟨by omega, hp, ?_, fun r hr hpr => ?_⟩
      · split
        · rfl
        · next z =>
          have : ¬ bmx g p n < g n := fun y => z ⟨hp, y⟩
          omega
      · have := fb_ct_zero.mp h0 r hr
        rw [hpr] at this
        cases this
    · obtain ⟨k1, k2, k3, k4⟩ := bro_at (g := g) h0
      rw [bro, bmx]
      by_cases hc : p n = true ∧ bmx g p n < g n
      · rw [if_pos ⟨hc.1, Or.inr hc.2⟩, if_pos hc]
        refine ⟨by omega, hc.1, rfl, fun r hr hpr => ?_⟩
        have := bmx_ge (g := g) hr hpr
        omega
      · rw [if_neg (fun z => z.2.elim h0 (fun y => hc ⟨z.1, y⟩)), if_neg hc]
        exact ⟨by omega, k2, k3, k4⟩
