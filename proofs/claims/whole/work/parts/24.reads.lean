def rn_H (a : Ab) (σ : ra_St) : Prop := σ 82 2 = nI (ab_hc a) ∧ ∀ h, h < ab_hc a → σ 85 h = nI (ab_tl a h) ∧ σ 86 h = nI (ab_pu a h) ∧ σ 87 h = nI (ab_te a h)
def sp_N_readsHouses (a : Ab) : ra_Sp := ra_f0 82 (fun σ Z => rn_T a σ ∧ ∀ σ', rn_H a σ' → ra_fr [85, 86, 87] σ σ' → Z (some (.int (ab_hf a))) σ')
theorem q_N_readsHouses {a : Ab} {oo : Nat} {σ : ra_St} {Z : ra_R} : sp_N_readsHouses a [.ref oo] σ Z = (oo = 82 ∧ (rn_T a σ ∧ ∀ σ', rn_H a σ' → ra_fr [85, 86, 87] σ σ' → Z (some (.int (ab_hf a))) σ')) := rfl
def I_N_readsHouses (a : Ab) (Z : ra_R) (as : List Value) (σ0 : ra_St) (t : Nat) (μ : ra_M) : ra_K := fun L S σ => as = [.ref 82] ∧ ∃ (n : Nat) (v : Value), n ≤ 8 ∧ (n = 0 ∨ 4 * n ≤ a 0 0) ∧ (∀ p, p < 4 * n → ab_bad a p = false) ∧ ra_fr [85, 86, 87] σ0 σ ∧ σ 82 2 = nI 0 ∧ (∀ h, h < n → σ 85 h = nI (ab_tl a h) ∧ σ 86 h = nI (ab_pu a h) ∧ σ 87 h = nI (ab_te a h)) ∧ μ = (9 - n, 0, 0) ∧ L = [.ref 82, .int (nI n), .int (nI (4 * n)), v] ∧ S = []
theorem ab_bad_d {a : Ab} {p : Nat} (hp : p % 4 = 0 ∨ p % 4 = 1) (h8 : p < 32) : ab_bad a p = !decide (48 ≤ a 1 p ∧ a 1 p ≤ 57) := by
  unfold ab_bad ab_fit
  rw [if_neg (by omega), if_neg (by omega), decide_eq_false (by omega : ¬ 8 ≤ p / 4)]
  rfl
theorem ab_bad_t {a : Ab} {p : Nat} (hp : p % 4 = 2) (h8 : p < 32) : ab_bad a p = !decide (ab_temp (a 1 p) < 4) := by
  unfold ab_bad ab_fit
  rw [if_pos hp, decide_eq_false (by omega : ¬ 8 ≤ p / 4)]
  rfl
theorem ab_bad_s {a : Ab} {p : Nat} (hp : p % 4 = 3) (h8 : p < 32) : ab_bad a p = !decide (a 1 p = 59) := by
  unfold ab_bad ab_fit
  rw [if_neg (by omega), if_pos hp, decide_eq_false (by omega : ¬ 8 ≤ p / 4)]
  rfl
theorem ab_bad_8 {a : Ab} {p : Nat} (h8 : 32 ≤ p) : ab_bad a p = true := by
  unfold ab_bad
  rw [decide_eq_true (by omega : 8 ≤ p / 4)]
  rfl
theorem k_N_readsHouses {l : Launch} {X : ra_X} {a : Ab} (hW : ab_W a) : ra_MOK l X mi_N_readsHouses (sp_N_readsHouses a) := by
  refine g_N_readsHouses (k_N_figureAt hW) (k_N_byteAt hW) (sp_N_readsHouses a) (I_N_readsHouses a) ?_ ?_
  · intro as σ Z _ _ h
    obtain ⟨rfl, hT, h⟩ := x_f0 h
    simp only [b_N_readsHouses_199, b_N_readsHouses_193, b_N_readsHouses_191, b_N_readsHouses_180, b_N_readsHouses_173, b_N_readsHouses_156, b_N_readsHouses_155, b_N_readsHouses_151, b_N_readsHouses_145, b_N_readsHouses_141, b_N_readsHouses_135, b_N_readsHouses_131, b_N_readsHouses_94, b_N_readsHouses_90, b_N_readsHouses_84, b_N_readsHouses_78, b_N_readsHouses_72, b_N_readsHouses_57, b_N_readsHouses_53, b_N_readsHouses_41, b_N_readsHouses_39, b_N_readsHouses_29, b_N_readsHouses_23, b_N_readsHouses_19, b_N_readsHouses_9, b_N_readsHouses_0, e_il2, e_al0, e_il1, e_il3, e_is3i, e_is3r, e_is3n, e_is1i, e_is1r, e_is1n, e_is2i, e_is2r, e_is2n, e_inc2i, e_inc2r, e_inc2n, e_inc1i, e_inc1r, e_inc1n, e_c, e_i2, e_b1, e_b2, e_gr, e_pi, e_ald, e_ast, e_ir, e_cv3, e_hd, e_c10, e_c1i, e_c1r, e_sh0, e_sh1, e_sh2, e_sh3, e_sh4, e_tls, e_tln, e_tl0, e_tl1, cl_82, cl_83, ln_83, cl_85, ln_85, cl_86, ln_86, cl_87, ln_87, tg_82_0, tg_82_3, tg_82_4, tg_82_5, q_N_figureAt, q_N_byteAt, Nat.reduceAdd, true_and, and_true, true_implies, not_true_eq_false, false_implies, not_false_eq_true, imp_self, forall_const, List.append_nil, ra_I, ra_J, ra_pad, true_or, or_true, Nat.reduceEqDiff, ra_bz, eq_self, if_true, if_false, false_and, and_false, Nat.zero_le, List.cons_append, List.nil_append, Nat.reduceLT, Nat.reduceLeDiff, Nat.reduceMul, Nat.reduceSub]
    exact ⟨_, rfl, 0, .null, by omega, Or.inl rfl, fun p hp => by omega, ra_fr.s2 ra_fr.rf, by simp [sw_at]; rfl, fun h hh => by omega, rfl, rfl, rfl⟩
  · intro as σ0 Z h0 μ L S σ hI
    obtain ⟨rfl, n, v, hn8, hn, hbad, hfr, h2, harr, rfl, rfl, rfl⟩ := hI
    obtain ⟨-, hT0, hZ⟩ := x_f0 h0
    have hT := hT0.fr hfr (by decide) (by decide)
    obtain ⟨T1, T2, T5, T6⟩ := id hT
    have W1 := hW.1
    have hb0 := hW.2.2.1 (4 * n)
    have hb1 := hW.2.2.1 (4 * n + 1)
    have hb2 := hW.2.2.1 (4 * n + 2)
    have hb3 := hW.2.2.1 (4 * n + 3)
    -- the ends
    have endAt : ∀ (j : Nat) (σ' : ra_St), (∀ p, p < j → ab_bad a p = false) → j ≤ a 0 0 → j ≠ 0 ∨ j < a 0 0 → (j < a 0 0 → ab_bad a j = true) → (j = a 0 0 → j % 4 ≠ 3) → ra_fr [85, 86, 87] σ0 σ' → σ' 82 2 = nI 0 → Z (some (.int (nI j))) σ' := by
      intro j σ' h1 h2 h3 h4 h5 h6 h7
      have h8 : ab_hf a = nI j ∧ ab_hc a = 0 := by
        rcases Nat.lt_or_ge j (a 0 0) with q | q
        · exact ab_bad_at h1 q (h4 q)
        · have e : j = a 0 0 := by omega
          rw [e]
          exact ab_short (fun p hp => h1 p (by omega)) (by omega) (by have := h5 e; omega)
      have h9 := hZ σ' ⟨by rw [h7, h8.2], fun h hh => by rw [h8.2] at hh; omega⟩ h6
      rw [h8.1] at h9
      exact h9
    have h94 : ∀ b : Nat, n < 8 → 4 * n + 2 < a 0 0 → b = a 1 (4 * n + 2) → ab_temp b < 4 → 48 ≤ a 1 (4 * n) ∧ a 1 (4 * n) ≤ 57 → 48 ≤ a 1 (4 * n + 1) ∧ a 1 (4 * n + 1) ≤ 57 → b_N_readsHouses_94 (sp_N_figureAt a) (sp_N_byteAt a) (ra_J (I_N_readsHouses a Z [.ref 82] σ0) (9 - n, 0, 0)) Z [.ref 82, .int (nI n), .int (nI (4 * n)), .int (nI b)] [] σ := by
      intro b hn7 hlt hb htb d0 d1
      have b0 : ab_bad a (4 * n) = false := by rw [ab_bad_d (by omega) (by omega)]; simpa using d0
      have b1 : ab_bad a (4 * n + 1) = false := by rw [ab_bad_d (by omega) (by omega)]; simpa using d1
      have b2 : ab_bad a (4 * n + 2) = false := by rw [ab_bad_t (by omega) (by omega), ← hb]; simpa using htb
      have allb : ∀ p, p < 4 * n + 3 → ab_bad a p = false := by
        intro p hp
        rcases (show p < 4 * n ∨ p = 4 * n ∨ p = 4 * n + 1 ∨ p = 4 * n + 2 by omega) with q | rfl | rfl | rfl
        · exact hbad p q
        · exact b0
        · exact b1
        · exact b2
      have h156 : b_N_readsHouses_156 (sp_N_figureAt a) (sp_N_byteAt a) (ra_J (I_N_readsHouses a Z [.ref 82] σ0) (9 - n, 0, 0)) Z [.ref 82, .int (nI n), .int (nI (4 * n)), .int (nI b)] [.int (nI (ab_te a n)), .int (nI n), .ref 87] (ra_sw (ra_sw σ 85 n (nI (a 1 (4 * n) - 48))) 86 n (nI (a 1 (4 * n + 1) - 48))) := by
        generalize hσ' : ra_sw (ra_sw σ 85 n (nI (a 1 (4 * n) - 48))) 86 n (nI (a 1 (4 * n + 1) - 48)) = σ'
        have fr1 : ra_fr [85, 86, 87] σ0 (ra_sw σ' 87 n (nI (ab_te a n))) := by
          rw [← hσ']
          exact ((hfr.sw (by decide) (by decide)).sw (by decide) (by decide)).sw (by decide) (by decide)
        have hT1 := hT0.fr fr1 (by decide) (by decide)
        have g2 : ra_sw σ' 87 n (nI (ab_te a n)) 82 2 = nI 0 := by rw [← hσ']; simp [sw_at, h2]
        have garr : ∀ h, h < n + 1 → ra_sw σ' 87 n (nI (ab_te a n)) 85 h = nI (ab_tl a h) ∧ ra_sw σ' 87 n (nI (ab_te a n)) 86 h = nI (ab_pu a h) ∧ ra_sw σ' 87 n (nI (ab_te a n)) 87 h = nI (ab_te a h) := by
          intro h hh
          rw [← hσ']
          by_cases e : h = n
          · subst e
            simp [sw_at, ab_tl, ab_pu]
          · have := harr h (by omega)
            simpa [sw_at, e] using this
        simp (disch := omega) only [b_N_readsHouses_199, b_N_readsHouses_193, b_N_readsHouses_191, b_N_readsHouses_180, b_N_readsHouses_173, b_N_readsHouses_156, b_N_readsHouses_155, b_N_readsHouses_151, b_N_readsHouses_145, b_N_readsHouses_141, b_N_readsHouses_135, b_N_readsHouses_131, b_N_readsHouses_94, b_N_readsHouses_90, b_N_readsHouses_84, b_N_readsHouses_78, b_N_readsHouses_72, b_N_readsHouses_57, b_N_readsHouses_53, b_N_readsHouses_41, b_N_readsHouses_39, b_N_readsHouses_29, b_N_readsHouses_23, b_N_readsHouses_19, b_N_readsHouses_9, b_N_readsHouses_0, e_il2, e_al0, e_il1, e_il3, e_is3i, e_is3r, e_is3n, e_is1i, e_is1r, e_is1n, e_is2i, e_is2r, e_is2n, e_inc2i, e_inc2r, e_inc2n, e_inc1i, e_inc1r, e_inc1n, e_c, e_i2, e_b1, e_b2, e_gr, e_pi, e_ald, e_ast, e_ir, e_cv3, e_hd, e_c10, e_c1i, e_c1r, e_sh0, e_sh1, e_sh2, e_sh3, e_sh4, e_tls, e_tln, e_tl0, e_tl1, cl_82, cl_83, ln_83, cl_85, ln_85, cl_86, ln_86, cl_87, ln_87, tg_82_0, tg_82_3, tg_82_4, tg_82_5, q_N_figureAt, q_N_byteAt, Nat.reduceAdd, true_and, and_true, true_implies, not_true_eq_false, false_implies, not_false_eq_true, imp_self, forall_const, List.append_nil, ra_I, ra_J, ra_pad, true_or, or_true, Nat.reduceEqDiff, ra_bz, eq_self, if_true, if_false, false_and, and_false, Nat.zero_le, List.cons_append, List.nil_append, Nat.reduceLT, Nat.reduceLeDiff, Nat.reduceMul, Nat.reduceSub, n_0, n_1, n_2, n_3, n_4, n_5, n_6, n_7, n_8, n_9, n_10, n_12, n_40, n_48, n_57, n_59, n_72, n_99, n_102, n_103, n_107, n_108, n_192, n_255, n_256, n_999, n_1000, n_104, nI_add, pk_mul, n_cl, n_in, n_le, n_lt, n_eq, n_m1, n_m1', n_lem1, n_m1le, n_ltm1, n_m1lt, n_lepred, n_shl, fa_or, hT1.1]
        refine ⟨by omega, ?_, ?_⟩
        · intro q
          have hw := ab_well (a := a) (fun p hp => allb p (by omega)) (Or.inr (by omega))
          have h9 := hZ (ra_sw (ra_sw σ' 87 n (nI (ab_te a n))) 82 2 (nI (n + 1))) ⟨by rw [hw.2]; simp [sw_at]; congr 1; omega, fun h hh => by
            have := garr h (by rw [hw.2] at hh; omega)
            simpa [sw_at] using this⟩ fr1.s2
          rw [hw.1] at h9
          exact h9
        · intro q
          refine ⟨hT1, by omega, fun z => ⟨?_, ?_⟩, fun z => ?_⟩
          · intro q2
            refine ⟨(9 - (n + 1), 0, 0), Or.inl (by show 9 - (n + 1) < 9 - n; omega), rfl, n + 1, _, by omega, Or.inr (by omega), ?_, fr1, g2, garr, rfl, rfl, rfl⟩
            intro p hp
            rcases (show p < 4 * n + 3 ∨ p = 4 * n + 3 by omega) with z | rfl
            · exact allb p z
            · rw [ab_bad_s (by omega) (by omega)]
              simpa using q2
          · intro q2
            exact endAt (4 * n + 3) (ra_sw σ' 87 n (nI (ab_te a n))) allb (by omega) (by omega) (fun z => by
              rw [ab_bad_s (by omega) (by omega)]
              simpa using q2) (fun z => by omega) fr1 g2
          · omega
      simp (disch := omega) only [b_N_readsHouses_199, b_N_readsHouses_193, b_N_readsHouses_191, b_N_readsHouses_180, b_N_readsHouses_173, b_N_readsHouses_155, b_N_readsHouses_151, b_N_readsHouses_145, b_N_readsHouses_141, b_N_readsHouses_135, b_N_readsHouses_131, b_N_readsHouses_94, b_N_readsHouses_90, b_N_readsHouses_84, b_N_readsHouses_78, b_N_readsHouses_72, b_N_readsHouses_57, b_N_readsHouses_53, b_N_readsHouses_41, b_N_readsHouses_39, b_N_readsHouses_29, b_N_readsHouses_23, b_N_readsHouses_19, b_N_readsHouses_9, b_N_readsHouses_0, e_il2, e_al0, e_il1, e_il3, e_is3i, e_is3r, e_is3n, e_is1i, e_is1r, e_is1n, e_is2i, e_is2r, e_is2n, e_inc2i, e_inc2r, e_inc2n, e_inc1i, e_inc1r, e_inc1n, e_c, e_i2, e_b1, e_b2, e_gr, e_pi, e_ald, e_ast, e_ir, e_cv3, e_hd, e_c10, e_c1i, e_c1r, e_sh0, e_sh1, e_sh2, e_sh3, e_sh4, e_tls, e_tln, e_tl0, e_tl1, cl_82, cl_83, ln_83, cl_85, ln_85, cl_86, ln_86, cl_87, ln_87, tg_82_0, tg_82_3, tg_82_4, tg_82_5, q_N_figureAt, q_N_byteAt, Nat.reduceAdd, true_and, and_true, true_implies, not_true_eq_false, false_implies, not_false_eq_true, imp_self, forall_const, List.append_nil, ra_I, ra_J, ra_pad, true_or, or_true, Nat.reduceEqDiff, ra_bz, eq_self, if_true, if_false, false_and, and_false, Nat.zero_le, List.cons_append, List.nil_append, Nat.reduceLT, Nat.reduceLeDiff, Nat.reduceMul, Nat.reduceSub, n_0, n_1, n_2, n_3, n_4, n_5, n_6, n_7, n_8, n_9, n_10, n_12, n_40, n_48, n_57, n_59, n_72, n_99, n_102, n_103, n_107, n_108, n_192, n_255, n_256, n_999, n_1000, n_104, nI_add, pk_mul, n_cl, n_in, n_le, n_lt, n_eq, n_m1, n_m1', n_lem1, n_m1le, n_ltm1, n_m1lt, n_lepred, n_shl, fa_or]
      have hT2 : rn_T a (ra_sw σ 85 n (nI (a 1 (4 * n) - 48))) := hT0.fr (hfr.sw (by decide) (by decide)) (by decide) (by decide)
      have hte : ab_te a n = ab_temp b := by rw [hb]; rfl
      rw [hte] at h156
      unfold ab_temp at h156 htb
      refine ⟨hT, by omega, fun _ _ _ => ⟨by omega, hT2, by omega, fun _ _ _ => ⟨by omega, fun q => ?_, fun q => ⟨fun q2 => ?_, fun q2 => ⟨fun q3 => ?_, fun q3 => ?_⟩⟩⟩, fun w => absurd ⟨by omega, d1⟩ w⟩, fun w => absurd ⟨by omega, d0⟩ w⟩
      · rw [if_pos q] at h156
        exact h156
      · rw [if_neg q, if_pos q2] at h156
        exact h156
      · rw [if_neg q, if_neg q2, if_pos q3] at h156
        exact h156
      · rw [if_neg q, if_neg q2, if_neg q3] at h156 htb
        by_cases q4 : b = 108
        · rw [if_pos q4] at h156
          exact h156
        · rw [if_neg q4] at htb
          omega
    have h23 : n ≠ 0 ∨ 0 < a 0 0 → b_N_readsHouses_23 (sp_N_figureAt a) (sp_N_byteAt a) (ra_J (I_N_readsHouses a Z [.ref 82] σ0) (9 - n, 0, 0)) Z [.ref 82, .int (nI n), .int (nI (4 * n)), v] [] σ := by
      intro hne
      simp (disch := omega) only [b_N_readsHouses_199, b_N_readsHouses_193, b_N_readsHouses_191, b_N_readsHouses_180, b_N_readsHouses_173, b_N_readsHouses_156, b_N_readsHouses_155, b_N_readsHouses_151, b_N_readsHouses_145, b_N_readsHouses_141, b_N_readsHouses_135, b_N_readsHouses_131, b_N_readsHouses_90, b_N_readsHouses_84, b_N_readsHouses_78, b_N_readsHouses_72, b_N_readsHouses_57, b_N_readsHouses_53, b_N_readsHouses_41, b_N_readsHouses_39, b_N_readsHouses_29, b_N_readsHouses_23, b_N_readsHouses_19, b_N_readsHouses_9, b_N_readsHouses_0, e_il2, e_al0, e_il1, e_il3, e_is3i, e_is3r, e_is3n, e_is1i, e_is1r, e_is1n, e_is2i, e_is2r, e_is2n, e_inc2i, e_inc2r, e_inc2n, e_inc1i, e_inc1r, e_inc1n, e_c, e_i2, e_b1, e_b2, e_gr, e_pi, e_ald, e_ast, e_ir, e_cv3, e_hd, e_c10, e_c1i, e_c1r, e_sh0, e_sh1, e_sh2, e_sh3, e_sh4, e_tls, e_tln, e_tl0, e_tl1, cl_82, cl_83, ln_83, cl_85, ln_85, cl_86, ln_86, cl_87, ln_87, tg_82_0, tg_82_3, tg_82_4, tg_82_5, q_N_figureAt, q_N_byteAt, Nat.reduceAdd, true_and, and_true, true_implies, not_true_eq_false, false_implies, not_false_eq_true, imp_self, forall_const, List.append_nil, ra_I, ra_J, ra_pad, true_or, or_true, Nat.reduceEqDiff, ra_bz, eq_self, if_true, if_false, false_and, and_false, Nat.zero_le, List.cons_append, List.nil_append, Nat.reduceLT, Nat.reduceLeDiff, Nat.reduceMul, Nat.reduceSub, n_0, n_1, n_2, n_3, n_4, n_5, n_6, n_7, n_8, n_9, n_10, n_12, n_40, n_48, n_57, n_59, n_72, n_99, n_102, n_103, n_107, n_108, n_192, n_255, n_256, n_999, n_1000, n_104, nI_add, pk_mul, n_cl, n_in, n_le, n_lt, n_eq, n_m1, n_m1', n_lem1, n_m1le, n_ltm1, n_m1lt, n_lepred, n_shl, fa_or]
      refine ⟨fun q => ?_, fun q => ⟨hT, by omega, fun q1 d1 d2 => ⟨hT, by omega, fun q2 e1 e2 => ⟨hT, by omega, fun q3 => ?_, fun q3 => ?_⟩, fun q2 => ?_⟩, fun q1 => ?_⟩⟩
      · exact endAt (4 * n) σ hbad (by omega) (by omega) (fun z => ab_bad_8 (by omega)) (fun z => by omega) hfr h2
      · have tmp : ∀ x, ab_temp (a 1 (4 * n + 2)) = x → x < 4 → b_N_readsHouses_94 (sp_N_figureAt a) (sp_N_byteAt a) (ra_J (I_N_readsHouses a Z [.ref 82] σ0) (9 - n, 0, 0)) Z [.ref 82, .int (nI n), .int (nI (4 * n)), .int (nI (a 1 (4 * n + 2)))] [] σ := fun x hx h4 => h94 _ (by omega) q3 rfl (by omega) ⟨d1, d2⟩ ⟨e1, e2⟩
        refine ⟨fun w1 => tmp 0 (by unfold ab_temp; rw [if_pos w1]) (by omega), fun w1 => ⟨fun w2 => tmp 1 (by unfold ab_temp; rw [if_neg w1, if_pos w2]) (by omega), fun w2 => ⟨fun w3 => tmp 2 (by unfold ab_temp; rw [if_neg w1, if_neg w2, if_pos w3]) (by omega), fun w3 => ⟨fun w4 => tmp 3 (by unfold ab_temp; rw [if_neg w1, if_neg w2, if_neg w3, if_pos w4]) (by omega), fun w4 => ?_⟩⟩⟩⟩
        refine endAt (4 * n + 2) σ ?_ (by omega) (by omega) (fun z => ?_) (fun z => by omega) hfr h2
        · intro p hp
          rcases (show p < 4 * n ∨ p = 4 * n ∨ p = 4 * n + 1 by omega) with z | rfl | rfl
          · exact hbad p z
          · rw [ab_bad_d (by omega) (by omega)]; simpa using ⟨d1, d2⟩
          · rw [ab_bad_d (by omega) (by omega)]; simpa using ⟨e1, e2⟩
        · rw [ab_bad_t (by omega) (by omega)]
          unfold ab_temp
          rw [if_neg w1, if_neg w2, if_neg w3, if_neg w4]
          rfl
      · refine endAt (4 * n + 2) σ ?_ (by omega) (by omega) (fun z => by omega) (fun z => by omega) hfr h2
        intro p hp
        rcases (show p < 4 * n ∨ p = 4 * n ∨ p = 4 * n + 1 by omega) with z | rfl | rfl
        · exact hbad p z
        · rw [ab_bad_d (by omega) (by omega)]; simpa using ⟨d1, d2⟩
        · rw [ab_bad_d (by omega) (by omega)]; simpa using ⟨e1, e2⟩
      · refine endAt (4 * n + 1) σ ?_ (by omega) (by omega) (fun z => ?_) (fun z => by omega) hfr h2
        · intro p hp
          rcases (show p < 4 * n ∨ p = 4 * n by omega) with z | rfl
          · exact hbad p z
          · rw [ab_bad_d (by omega) (by omega)]; simpa using ⟨d1, d2⟩
        · rw [ab_bad_d (by omega) (by omega)]
          simp
          omega
      · refine endAt (4 * n) σ hbad (by omega) (by omega) (fun z => ?_) (fun z => by omega) hfr h2
        rw [ab_bad_d (by omega) (by omega)]
        simp
        omega
    simp (disch := omega) only [b_N_readsHouses_199, b_N_readsHouses_193, b_N_readsHouses_191, b_N_readsHouses_180, b_N_readsHouses_173, b_N_readsHouses_156, b_N_readsHouses_155, b_N_readsHouses_151, b_N_readsHouses_145, b_N_readsHouses_141, b_N_readsHouses_135, b_N_readsHouses_131, b_N_readsHouses_90, b_N_readsHouses_84, b_N_readsHouses_78, b_N_readsHouses_72, b_N_readsHouses_57, b_N_readsHouses_53, b_N_readsHouses_41, b_N_readsHouses_39, b_N_readsHouses_29, b_N_readsHouses_19, b_N_readsHouses_9, b_N_readsHouses_0, e_il2, e_al0, e_il1, e_il3, e_is3i, e_is3r, e_is3n, e_is1i, e_is1r, e_is1n, e_is2i, e_is2r, e_is2n, e_inc2i, e_inc2r, e_inc2n, e_inc1i, e_inc1r, e_inc1n, e_c, e_i2, e_b1, e_b2, e_gr, e_pi, e_ald, e_ast, e_ir, e_cv3, e_hd, e_c10, e_c1i, e_c1r, e_sh0, e_sh1, e_sh2, e_sh3, e_sh4, e_tls, e_tln, e_tl0, e_tl1, cl_82, cl_83, ln_83, cl_85, ln_85, cl_86, ln_86, cl_87, ln_87, tg_82_0, tg_82_3, tg_82_4, tg_82_5, q_N_figureAt, q_N_byteAt, Nat.reduceAdd, true_and, and_true, true_implies, not_true_eq_false, false_implies, not_false_eq_true, imp_self, forall_const, List.append_nil, ra_I, ra_J, ra_pad, true_or, or_true, Nat.reduceEqDiff, ra_bz, eq_self, if_true, if_false, false_and, and_false, Nat.zero_le, List.cons_append, List.nil_append, Nat.reduceLT, Nat.reduceLeDiff, Nat.reduceMul, Nat.reduceSub, n_0, n_1, n_2, n_3, n_4, n_5, n_6, n_7, n_8, n_9, n_10, n_12, n_40, n_48, n_57, n_59, n_72, n_99, n_102, n_103, n_107, n_108, n_192, n_255, n_256, n_999, n_1000, n_104, nI_add, pk_mul, n_cl, n_in, n_le, n_lt, n_eq, n_m1, n_m1', n_lem1, n_m1le, n_ltm1, n_m1lt, n_lepred, n_shl, fa_or, T1]
    refine ⟨fun q => h23 (by omega), fun q => ⟨fun q2 => ?_, fun q2 => h23 (by omega)⟩⟩
    have hw := ab_well (a := a) (fun p hp => by omega) (Or.inl (by omega))
    have h9 := hZ σ ⟨by rw [hw.2, h2]; congr 1; omega, fun h hh => by rw [hw.2] at hh; omega⟩ hfr
    rw [hw.1] at h9
    exact h9
