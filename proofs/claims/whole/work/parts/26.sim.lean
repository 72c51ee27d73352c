/-! rains: tiles, purses, harm, laid, whether one was laid behind the last rain -/
abbrev Sm : Type := (Nat → Nat) × (Nat → Nat) × (Nat → Nat) × (Nat → Nat) × (Nat → Bool)
noncomputable def sm_lay (a : Ab) (te : Nat → Nat) (s : Nat) (m : Sm) (r : Nat) : Bool :=
  decide (a 5 0 ≤ m.2.1 (ab_on a r)) && (decide (m.1 r ≤ 8) && (if te (ab_on a r) = 0 then decide (0 < s - m.1 r) else if te (ab_on a r) = 1 then decide (0 < s - m.1 r) && (decide (s - m.1 (ab_on a r) = 0) || m.2.2.2.2 (ab_on a r)) else decide (te (ab_on a r) = 2) && decide (2 < s - m.1 r)))
noncomputable def sm_step (a : Ab) (te : Nat → Nat) (s : Nat) (m : Sm) : Sm :=
  (fun r => if sm_lay a te s m r = true then m.1 r + 1 else if a 5 1 = 1 ∧ 0 < s - m.1 r ∧ 0 < m.1 r then m.1 r - 1 else m.1 r,
   fun o => if sm_lay a te s m (ab_ow a o) = true then m.2.1 o - a 5 0 else m.2.1 o,
   fun r => m.2.2.1 r + (s - m.1 r),
   fun r => m.2.2.2.1 r + (if sm_lay a te s m r = true then 1 else 0),
   fun r => sm_lay a te s m r)
noncomputable def sm (a : Ab) (te : Nat → Nat) : Nat → Sm
  | 0 => (ab_tl a, ab_pu a, fun _ => 0, fun _ => 0, fun _ => false)
  | k + 1 => sm_step a te (a 4 k) (sm a te k)
theorem sm_laid {a : Ab} {te : Nat → Nat} {s : Nat} {m : Sm} {r : Nat} (h : sm_lay a te s m r = true) : a 5 0 ≤ m.2.1 (ab_on a r) ∧ m.1 r ≤ 8 := by
  unfold sm_lay at h
  rw [Bool.and_eq_true, Bool.and_eq_true] at h
  exact ⟨by simpa using h.1, by simpa using h.2.1⟩
theorem sm_bd {a : Ab} (hW : ab_W a) (te : Nat → Nat) : ∀ (k h : Nat), h < ab_hc a → (sm a te k).1 h ≤ 9 ∧ (sm a te k).2.1 h ≤ 9 ∧ (sm a te k).2.2.1 h ≤ 9 * k ∧ (sm a te k).2.2.2.1 h ≤ k
  | 0, h, hh => ⟨(ab_tl_9 hh).1, (ab_pu_9 hh).1, Nat.le_refl _, Nat.le_refl _⟩
  | k + 1, h, hh => by
    obtain ⟨h1, h2, h3, h4⟩ := sm_bd hW te k h hh
    have h5 := hW.2.2.2.2.2.1 k
    refine ⟨?_, ?_, ?_, ?_⟩
    · show (if sm_lay a te (a 4 k) (sm a te k) h = true then _ else _) ≤ 9
      split
      · next q => have := (sm_laid q).2; omega
      · split <;> omega
    · show (if sm_lay a te (a 4 k) (sm a te k) (ab_ow a h) = true then _ else _) ≤ 9
      split <;> omega
    · show (sm a te k).2.2.1 h + (a 4 k - (sm a te k).1 h) ≤ 9 * (k + 1)
      omega
    · show (sm a te k).2.2.2.1 h + (if sm_lay a te (a 4 k) (sm a te k) h = true then 1 else 0) ≤ k + 1
      split <;> omega
/-- the reference, all that is told of it in numbers -/
def rn_R (a : Ab) (σ : ra_St) : Prop := rn_T a σ ∧ σ 82 7 = nI (a 3 0) ∧ (∀ k, k < a 3 0 → σ 89 k = nI (a 4 k)) ∧ σ 90 0 = nI (a 5 0) ∧ σ 90 1 = nI (a 5 1) ∧ (∀ i, i < 64 → σ 100 i = nI (a 6 i)) ∧ σ 82 22 = nI (a 7 0) ∧ ∀ k, k < a 7 0 → σ 103 k = nI (a 8 k) ∧ σ 104 k = nI (a 9 k) ∧ σ 105 k = nI (a 10 k)
def rn_scr : List Nat := [85, 86, 87, 88, 92, 93, 94, 95, 96, 97, 98, 99, 101, 102, 106, 107, 112]
theorem rn_R.fr {a : Ab} {σ σ' : ra_St} {cs : List Nat} (h : rn_R a σ) (hf : ra_fr cs σ σ') (hs : ∀ c ∈ cs, c ∈ rn_scr) : rn_R a σ' := by
  have hf := hf.mono hs
  unfold rn_R
  rw [hf.1 89 (by decide) (by decide), hf.1 90 (by decide) (by decide), hf.1 100 (by decide) (by decide), hf.1 103 (by decide) (by decide), hf.1 104 (by decide) (by decide), hf.1 105 (by decide) (by decide), hf.2 7 (by decide), hf.2 22 (by decide)]
  exact ⟨h.1.fr hf (by decide) (by decide), h.2⟩
/-- of a rain: what who lays goes by -/
def rn_L (a : Ab) (te : Nat → Nat) (s : Nat) (m : Sm) (σ : ra_St) : Prop := σ 90 0 = nI (a 5 0) ∧ ∀ h, h < ab_hc a → σ 92 h = nI (te h) ∧ te h ≤ 3 ∧ σ 93 h = nI (m.1 h) ∧ σ 94 h = nI (m.2.1 h) ∧ σ 97 h = nI (s - m.1 h) ∧ σ 98 h = nI (if m.2.2.2.2 h = true then 1 else 0) ∧ m.1 h ≤ 9 ∧ m.2.1 h ≤ 9
def sp_N_doesLay (a : Ab) : ra_Sp := ra_f2 82 (fun o r σ Z => ∃ (te : Nat → Nat) (s : Nat) (m : Sm), s ≤ 9 ∧ rn_L a te s m σ ∧ vp_in o (ab_hc a) ∧ r = nI (ab_ow a o.toNatClampNeg) ∧ ra_bz (sm_lay a te s m (ab_ow a o.toNatClampNeg) = true) Z σ)
theorem q_N_doesLay {a : Ab} {oo : Nat} {o r : Int32} {σ : ra_St} {Z : ra_R} : sp_N_doesLay a [.ref oo, .int o, .int r] σ Z = (oo = 82 ∧ (∃ (te : Nat → Nat) (s : Nat) (m : Sm), s ≤ 9 ∧ rn_L a te s m σ ∧ vp_in o (ab_hc a) ∧ r = nI (ab_ow a o.toNatClampNeg) ∧ ra_bz (sm_lay a te s m (ab_ow a o.toNatClampNeg) = true) Z σ)) := rfl
theorem k_N_doesLay {l : Launch} {X : ra_X} {a : Ab} (hW : ab_W a) : ra_MOK l X mi_N_doesLay (sp_N_doesLay a) := by
  have h8 := ab_hc_8 a
  refine g_N_doesLay (sp_N_doesLay a) ?_
  intro as σ Z _ _ h
  obtain ⟨_, _, rfl, te, s, m, hs, ⟨hp, hL⟩, ho0, rfl, h1, h2⟩ := x_f2 h
  obtain ⟨o, ho, rfl⟩ := vp_in_of ho0 (by omega)
  rw [n_cl (by omega)] at h1 h2
  have hr := ab_ow_lt ho
  obtain ⟨e1, e2, e3, e4, e5, e6, e7, e8⟩ := hL o ho
  obtain ⟨f1, f2, f3, f4, f5, f6, f7, f8⟩ := hL _ hr
  have hprice := hW.2.2.2.2.2.2.2.1
  have hb : (if m.2.2.2.2 o = true then 1 else 0) ≤ 1 := by split <;> omega
  simp (disch := omega) only [b_N_doesLay_121, b_N_doesLay_120, b_N_doesLay_116, b_N_doesLay_106, b_N_doesLay_96, b_N_doesLay_95, b_N_doesLay_94, b_N_doesLay_90, b_N_doesLay_80, b_N_doesLay_71, b_N_doesLay_62, b_N_doesLay_52, b_N_doesLay_51, b_N_doesLay_50, b_N_doesLay_46, b_N_doesLay_37, b_N_doesLay_28, b_N_doesLay_26, b_N_doesLay_15, b_N_doesLay_0, e_al0, e_il2, e_il1, e_c, e_b1, e_b2, e_gr, e_ald, e_zr, cl_82, cl_90, ln_90, cl_92, ln_92, cl_93, ln_93, cl_94, ln_94, cl_97, ln_97, cl_98, ln_98, tg_82_9, tg_82_11, tg_82_12, tg_82_13, tg_82_16, tg_82_17, Nat.reduceAdd, true_and, and_true, true_implies, not_true_eq_false, false_implies, not_false_eq_true, imp_self, forall_const, List.append_nil, ra_I, ra_J, ra_pad, true_or, or_true, Nat.reduceEqDiff, ra_bz, eq_self, if_true, if_false, false_and, and_false, Nat.zero_le, List.cons_append, List.nil_append, Nat.reduceLT, Nat.reduceLeDiff, Nat.reduceMul, Nat.reduceSub, n_0, n_1, n_2, n_3, n_4, n_5, n_6, n_7, n_8, n_9, n_10, n_12, n_40, n_48, n_57, n_59, n_72, n_99, n_102, n_103, n_107, n_108, n_192, n_255, n_256, n_999, n_1000, n_104, nI_add, pk_mul, n_cl, n_inT, n_le, n_lt, n_eq, n_m1, n_m1', n_lem1, n_m1le, n_ltm1, n_m1lt, n_lepred, n_shl, fa_or, n_cl (show o < 2147483648 by omega), e1, e4, e5, e6, f3, f5, hp]
  unfold sm_lay at h1 h2
  rw [ab_on_ow ho] at h1 h2
  have hbB : ((if m.2.2.2.2 o = true then 1 else 0) = 1) = (m.2.2.2.2 o = true) := by cases m.2.2.2.2 o <;> simp
  rw [hbB]
  simp only [Bool.and_eq_true, decide_eq_true_eq] at h1 h2
  refine ⟨fun q => h2 (by omega), fun q => ⟨fun q1 => ⟨fun q2 => ⟨fun q3 => h2 ?_, fun q3 => h1 ?_⟩, fun q2 => ⟨fun q3 => ⟨fun q4 => h2 ?_, fun q4 => ⟨fun q5 => h1 ?_, fun q5 => ⟨fun q6 => h1 ?_, fun q6 => h2 ?_⟩⟩⟩, fun q3 => ⟨fun q4 => ⟨fun q5 => h2 ?_, fun q5 => h1 ?_⟩, fun q4 => h2 ?_⟩⟩⟩, fun q1 => h2 (by omega)⟩⟩
  · rw [if_pos q2, decide_eq_true_eq]; omega
  · rw [if_pos q2, decide_eq_true_eq]; omega
  · rw [if_neg q2, if_pos q3]; simp; omega
  · rw [if_neg q2, if_pos q3]; simp [q5]; omega
  · rw [if_neg q2, if_pos q3]; simp [q6]; omega
  · rw [if_neg q2, if_pos q3]; simp [q5, q6]
  · rw [if_neg q2, if_neg q3]; simp; omega
  · rw [if_neg q2, if_neg q3]; simp; omega
  · rw [if_neg q2, if_neg q3]; simp [q4]
