def ab_tb (a : Ab) : Nat → Nat
  | 0 => 0
  | k + 1 => ab_tb a k ||| 2 ^ (a 2 k - 48)
def ab_lbad (a : Ab) (k : Nat) : Bool := !decide (48 ≤ a 2 k ∧ a 2 k - 48 < ab_hc a) || ((ab_tb a k).testBit (a 2 k - 48) || decide (ab_hc a ≤ k))
def ab_lj (a : Ab) : Nat := fa_first (ab_lbad a) (a 0 1)
def ab_lf (a : Ab) : Int32 := if ab_lj a < a 0 1 then nI (ab_lj a) else if a 0 1 < ab_hc a then nI (a 0 1) else -1
def ab_lok (a : Ab) : Prop := ab_lj a = a 0 1 ∧ ab_hc a ≤ a 0 1
theorem ab_lok_lf (a : Ab) (hW : ab_W a) : ab_lok a ↔ ab_lf a = -1 := by
  have h1 := fa_first_le (ab_lbad a) (a 0 1)
  have h2 := hW.2.1
  unfold ab_lok ab_lf
  have hj : ab_lj a ≤ a 0 1 := h1
  constructor
  · intro h
    rw [if_neg (by omega), if_neg (by omega)]
  · intro h
    split at h
    · have h3 : (nI (ab_lj a) = -nI 1) = False := n_m1 (by omega)
      exact absurd h (by rw [show (-1 : Int32) = -nI 1 from rfl, h3]; exact id)
    · split at h
      · have h3 : (nI (a 0 1) = -nI 1) = False := n_m1 (by omega)
        exact absurd h (by rw [show (-1 : Int32) = -nI 1 from rfl, h3]; exact id)
      · omega
theorem ab_tb_spec (a : Ab) : ∀ k r, (ab_tb a k).testBit r = true ↔ ∃ j, j < k ∧ a 2 j - 48 = r
  | 0, r => by
    constructor
    · intro h; simp [ab_tb] at h
    · rintro ⟨j, h, _⟩; omega
  | k + 1, r => by
    rw [ab_tb, n_tb_or, Bool.or_eq_true, ab_tb_spec a k r, decide_eq_true_eq]
    constructor
    · rintro (⟨j, h1, h2⟩ | h)
      · exact ⟨j, by omega, h2⟩
      · exact ⟨k, by omega, h.symm⟩
    · rintro ⟨j, h1, h2⟩
      rcases (show j < k ∨ j = k by omega) with q | rfl
      · exact Or.inl ⟨j, q, h2⟩
      · exact Or.inr h2.symm
theorem ab_lgood {a : Ab} {k : Nat} (h : ab_lbad a k = false) : 48 ≤ a 2 k ∧ a 2 k - 48 < ab_hc a ∧ (∀ j, j < k → a 2 j - 48 ≠ a 2 k - 48) ∧ k < ab_hc a := by
  unfold ab_lbad at h
  rw [Bool.or_eq_false_iff, Bool.or_eq_false_iff] at h
  obtain ⟨h1, h2, h3⟩ := h
  have h1 : 48 ≤ a 2 k ∧ a 2 k - 48 < ab_hc a := by simpa using h1
  refine ⟨h1.1, h1.2, fun j hj e => ?_, by simpa using h3⟩
  have h4 := (ab_tb_spec a k (a 2 k - 48)).mpr ⟨j, hj, e⟩
  rw [h2] at h4
  cases h4
theorem ab_tb_lt {a : Ab} : ∀ k, (∀ j, j < k → ab_lbad a j = false) → ab_tb a k < 256
  | 0, _ => by show 0 < 256; omega
  | k + 1, h => by
    have h1 := ab_tb_lt k (fun j hj => h j (by omega))
    have h2 := (ab_lgood (h k (by omega))).2.1
    have h3 := ab_hc_8 a
    rw [ab_tb]
    exact Nat.or_lt_two_pow (n := 8) h1 (Nat.pow_lt_pow_right (by decide) (by omega))
/-- all told: a figure that is a house's is told already -/
theorem ab_full {a : Ab} (h : ∀ j, j < ab_hc a → ab_lbad a j = false) {r : Nat} (hr : r < ab_hc a) : (ab_tb a (ab_hc a)).testBit r = true := by
  obtain ⟨i, h1, h2⟩ := fb_onto (n := ab_hc a) (f := fun j => a 2 j - 48) (fun i hi => (ab_lgood (h i hi)).2.1) (fun i j hij hj => (ab_lgood (h j hj)).2.2.1 i hij) hr
  exact (ab_tb_spec a _ r).mpr ⟨i, h1, h2⟩
noncomputable def ab_ow (a : Ab) (h : Nat) : Nat := if ab_lj a = a 0 1 ∧ ab_hc a ≤ a 0 1 then a 2 h - 48 else if h + 1 < ab_hc a then h + 1 else 0
theorem ab_lok_n {a : Ab} (h : ab_lok a) : a 0 1 = ab_hc a ∧ ∀ j, j < ab_hc a → ab_lbad a j = false := by
  have h1 : ∀ j, j < a 0 1 → ab_lbad a j = false := fun j hj => fa_first_no (ab_lbad a) (a 0 1) j (by have := h.1; unfold ab_lj at this; omega)
  have h2 : a 0 1 = ab_hc a := by
    have h3 := h.2
    rcases Nat.lt_or_ge (ab_hc a) (a 0 1) with q | q
    · have := (ab_lgood (h1 _ q)).2.2.2
      omega
    · omega
  exact ⟨h2, fun j hj => h1 j (by omega)⟩
theorem ab_ow_lt {a : Ab} {h : Nat} (hh : h < ab_hc a) : ab_ow a h < ab_hc a := by
  unfold ab_ow
  split
  · next q => exact (ab_lgood ((ab_lok_n q).2 h hh)).2.1
  · split <;> omega
theorem ab_ow_inj {a : Ab} {h i : Nat} (hh : h < ab_hc a) (hi : i < ab_hc a) (e : ab_ow a h = ab_ow a i) : h = i := by
  unfold ab_ow at e
  split at e
  · next q =>
    have g := (ab_lok_n q).2
    rcases Nat.lt_trichotomy h i with z | z | z
    · exact absurd e ((ab_lgood (g i hi)).2.2.1 h z)
    · exact z
    · exact absurd e.symm ((ab_lgood (g h hh)).2.2.1 i z)
  · split at e <;> split at e <;> omega
/-- who owns a roof -/
noncomputable def ab_on (a : Ab) (r : Nat) : Nat := fa_first (fun h => decide (ab_ow a h = r)) (ab_hc a)
theorem ab_on_spec {a : Ab} {r : Nat} (hr : r < ab_hc a) : ab_on a r < ab_hc a ∧ ab_ow a (ab_on a r) = r := by
  obtain ⟨i, h1, h2⟩ := fb_onto (n := ab_hc a) (f := ab_ow a) (fun i hi => ab_ow_lt hi) (fun i j hij hj e => by have := ab_ow_inj (by omega) hj e; omega) hr
  have h3 : ab_on a r < ab_hc a := by
    apply Classical.byContradiction
    intro q
    have h4 := fa_first_no (fun h => decide (ab_ow a h = r)) (ab_hc a) i (by unfold ab_on at q; omega)
    simp [h2] at h4
  refine ⟨h3, ?_⟩
  have h5 := fa_first_yes (fun h => decide (ab_ow a h = r)) (ab_hc a) h3
  unfold ab_on
  simpa using h5
theorem ab_on_ow {a : Ab} {h : Nat} (hh : h < ab_hc a) : ab_on a (ab_ow a h) = h :=
  have h1 := ab_on_spec (ab_ow_lt hh)
  ab_ow_inj h1.1 hh h1.2
theorem ts_nt' {x : Bool} (h : ¬ x = true) : x = false := by cases x <;> first | rfl | exact absurd rfl h
def sp_N_readsLots (a : Ab) : ra_Sp := ra_f0 82 (fun σ Z => rn_T a σ ∧ σ 82 2 = nI (ab_hc a) ∧ ∀ σ', (ab_lok a → ∀ h, h < ab_hc a → σ' 88 h = nI (ab_ow a h)) → ra_fr [88] σ σ' → σ' 82 2 = σ 82 2 → Z (some (.int (ab_lf a))) σ')
theorem q_N_readsLots {a : Ab} {oo : Nat} {σ : ra_St} {Z : ra_R} : sp_N_readsLots a [.ref oo] σ Z = (oo = 82 ∧ (rn_T a σ ∧ σ 82 2 = nI (ab_hc a) ∧ ∀ σ', (ab_lok a → ∀ h, h < ab_hc a → σ' 88 h = nI (ab_ow a h)) → ra_fr [88] σ σ' → σ' 82 2 = σ 82 2 → Z (some (.int (ab_lf a))) σ')) := rfl
def I_N_readsLots (a : Ab) (Z : ra_R) (as : List Value) (σ0 : ra_St) (t : Nat) (μ : ra_M) : ra_K := fun L S σ => as = [.ref 82] ∧ ∃ (k : Nat) (v : Value), k ≤ a 0 1 ∧ (∀ j, j < k → ab_lbad a j = false) ∧ ra_fr [88] σ0 σ ∧ σ 82 2 = nI (ab_hc a) ∧ (∀ j, j < k → σ 88 j = nI (a 2 j - 48)) ∧ μ = (11 - k, 0, 0) ∧ L = [.ref 82, .int (nI (ab_tb a k)), .int (nI k), v] ∧ S = []
theorem k_N_readsLots {l : Launch} {X : ra_X} {a : Ab} (hW : ab_W a) : ra_MOK l X mi_N_readsLots (sp_N_readsLots a) := by
  refine g_N_readsLots (k_N_figureAt hW) k_N_in k_N_isIn (sp_N_readsLots a) (I_N_readsLots a) ?_ ?_
  · intro as σ Z _ _ h
    obtain ⟨rfl, hT, hh, h⟩ := x_f0 h
    simp only [b_N_readsLots_87, b_N_readsLots_86, b_N_readsLots_77, b_N_readsLots_64, b_N_readsLots_45, b_N_readsLots_43, b_N_readsLots_35, b_N_readsLots_14, b_N_readsLots_4, b_N_readsLots_0, e_al0, e_il2, e_il3, e_il1, e_is1i, e_is1r, e_is1n, e_is3i, e_is3r, e_is3n, e_is2i, e_is2r, e_is2n, e_inc2i, e_inc2r, e_inc2n, e_c, e_i2, e_b1, e_b2, e_gi, e_gr, e_ald, e_ast, e_ir, e_cs2, e_cs3, e_cv3, e_hd, e_c10, e_c1i, e_c1r, e_sh0, e_sh1, e_sh2, e_sh3, e_sh4, e_tls, e_tln, e_tl0, e_tl1, cl_82, cl_83, ln_83, cl_88, ln_88, tg_82_0, tg_82_6, q_N_figureAt, q_N_in, q_N_isIn, Nat.reduceAdd, true_and, and_true, true_implies, not_true_eq_false, false_implies, not_false_eq_true, imp_self, forall_const, List.append_nil, ra_I, ra_J, ra_pad, true_or, or_true, Nat.reduceEqDiff, ra_bz, eq_self, if_true, if_false, false_and, and_false, Nat.zero_le, List.cons_append, List.nil_append, Nat.reduceLT, Nat.reduceLeDiff, Nat.reduceMul, Nat.reduceSub]
    exact ⟨_, rfl, 0, .null, by omega, fun j hj => by omega, ra_fr.rf, hh, fun j hj => by omega, rfl, rfl, rfl⟩
  · intro as σ0 Z h0 μ L S σ hI
    obtain ⟨rfl, k, v, hk, hgood, hfr, h2, harr, rfl, rfl, rfl⟩ := hI
    obtain ⟨-, hT0, h20, hZ⟩ := x_f0 h0
    have hT := hT0.fr hfr (by decide) (by decide)
    have W2 := hW.2.1
    have hb := hW.2.2.2.1 k
    have htb := ab_tb_lt k hgood
    have h8 := ab_hc_8 a
    have hkh : k ≤ ab_hc a := by
      rcases Nat.eq_zero_or_pos k with q | q
      · omega
      · have := (ab_lgood (hgood (k - 1) (by omega))).2.2.2
        omega
    simp (disch := omega) only [b_N_readsLots_87, b_N_readsLots_86, b_N_readsLots_77, b_N_readsLots_64, b_N_readsLots_45, b_N_readsLots_43, b_N_readsLots_35, b_N_readsLots_14, b_N_readsLots_4, b_N_readsLots_0, e_al0, e_il2, e_il3, e_il1, e_is1i, e_is1r, e_is1n, e_is3i, e_is3r, e_is3n, e_is2i, e_is2r, e_is2n, e_inc2i, e_inc2r, e_inc2n, e_c, e_i2, e_b1, e_b2, e_gi, e_gr, e_ald, e_ast, e_ir, e_cs2, e_cs3, e_cv3, e_hd, e_c10, e_c1i, e_c1r, e_sh0, e_sh1, e_sh2, e_sh3, e_sh4, e_tls, e_tln, e_tl0, e_tl1, cl_82, cl_83, ln_83, cl_88, ln_88, tg_82_0, tg_82_6, q_N_figureAt, q_N_in, q_N_isIn, Nat.reduceAdd, true_and, and_true, true_implies, not_true_eq_false, false_implies, not_false_eq_true, imp_self, forall_const, List.append_nil, ra_I, ra_J, ra_pad, true_or, or_true, Nat.reduceEqDiff, ra_bz, eq_self, if_true, if_false, false_and, and_false, Nat.zero_le, List.cons_append, List.nil_append, Nat.reduceLT, Nat.reduceLeDiff, Nat.reduceMul, Nat.reduceSub, n_0, n_1, n_2, n_3, n_4, n_5, n_6, n_7, n_8, n_9, n_10, n_12, n_40, n_48, n_57, n_59, n_72, n_99, n_102, n_103, n_107, n_108, n_192, n_255, n_256, n_999, n_1000, n_104, nI_add, pk_mul, n_cl, n_in, n_le, n_lt, n_eq, n_m1, n_m1', n_lem1, n_m1le, n_ltm1, n_m1lt, n_lepred, n_shl, fa_or, hT.2.1, h2]
    have bad : k < a 0 1 → ab_lbad a k = true → Z (some (.int (nI k))) σ := by
      intro q1 q2
      have e : ab_lj a = k := fa_first_eq hgood q1 q2
      have h9 := hZ σ (fun q => by have := q.1; omega) hfr (by rw [h2, h20])
      unfold ab_lf at h9
      rw [e, if_pos q1] at h9
      exact h9
    have done : a 0 1 ≤ k → ∀ v, v = ab_lf a → Z (some (.int v)) σ := by
      intro q v hv
      rw [hv]
      refine hZ σ (fun q h hh => ?_) hfr (by rw [h2, h20])
      have h3 := ab_lok_n q
      rw [harr h (by omega)]
      unfold ab_ow
      rw [if_pos (show ab_lj a = a 0 1 ∧ ab_hc a ≤ a 0 1 from q)]
    have lj : a 0 1 ≤ k → ab_lj a = a 0 1 := fun q => fa_first_all (fun j hj => hgood j (by omega))
    refine ⟨fun q => ⟨fun q2 => done q _ ?_, fun q2 => done q _ ?_⟩, fun q => ⟨hT, by omega, fun q1 d1 d2 => ⟨fun q2 => ⟨by omega, fun q3 => bad (by omega) ?_, fun q3 => ?_⟩, fun q2 => bad (by omega) ?_⟩, fun q1 => bad (by omega) ?_⟩⟩
    · unfold ab_lf
      rw [lj q, if_neg (by omega), if_neg (by omega)]
      rfl
    · unfold ab_lf
      rw [lj q, if_neg (by omega), if_pos (by omega)]
    · unfold ab_lbad
      rw [q3]
      simp
    · have hk9 : k < ab_hc a := by
        rcases Nat.lt_or_ge k (ab_hc a) with z | z
        · exact z
        · have e : k = ab_hc a := by omega
          have := ab_full (a := a) (fun j hj => hgood j (by omega)) q2
          rw [← e] at this
          exact absurd this q3
      refine ⟨by omega, (11 - (k + 1), 0, 0), Or.inl (by show 11 - (k + 1) < 11 - k; omega), rfl, k + 1, .int (nI (a 2 k - 48)), by omega, ?_, hfr.sw (by decide) (by decide), ?_, ?_, rfl, ?_, rfl⟩
      · intro j hj
        rcases (show j < k ∨ j = k by omega) with z | rfl
        · exact hgood j z
        · unfold ab_lbad
          rw [ts_nt' q3, decide_eq_true (⟨d1, q2⟩ : 48 ≤ a 2 j ∧ a 2 j - 48 < ab_hc a), decide_eq_false (by omega : ¬ ab_hc a ≤ j)]
          rfl
      · simp [sw_at, h2]
      · intro j hj
        rw [sw_at, if_pos rfl]
        split
        · next e => rw [e]
        · exact harr j (by omega)
      · rw [n_shl (by omega), fa_or]
        rfl
    · unfold ab_lbad
      rw [decide_eq_false (by omega : ¬ (48 ≤ a 2 k ∧ a 2 k - 48 < ab_hc a))]
      rfl
    · unfold ab_lbad
      rw [decide_eq_false (by omega : ¬ (48 ≤ a 2 k ∧ a 2 k - 48 < ab_hc a))]
      rfl
/-- houses and lots as told -/
def rn_P (a : Ab) (σ : ra_St) : Prop := rn_H a σ ∧ ∀ h, h < ab_hc a → σ 88 h = nI (ab_ow a h)
def sp_N_lotsNow (a : Ab) : ra_Sp := ra_f0 82 (fun σ Z => rn_T a σ ∧ ∀ σ', rn_P a σ' → ra_fr [85, 86, 87, 88] σ σ' → Z (some (.int (ab_lf a))) σ')
theorem q_N_lotsNow {a : Ab} {oo : Nat} {σ : ra_St} {Z : ra_R} : sp_N_lotsNow a [.ref oo] σ Z = (oo = 82 ∧ (rn_T a σ ∧ ∀ σ', rn_P a σ' → ra_fr [85, 86, 87, 88] σ σ' → Z (some (.int (ab_lf a))) σ')) := rfl
def I_N_lotsNow (a : Ab) (Z : ra_R) (as : List Value) (σ0 : ra_St) (t : Nat) (μ : ra_M) : ra_K := fun L S σ => as = [.ref 82] ∧ ∃ (k : Nat) (v : Int32), k ≤ ab_hc a ∧ ra_fr [85, 86, 87, 88] σ0 σ ∧ rn_H a σ ∧ (ab_lok a → ∀ h, h < ab_hc a → σ 88 h = nI (ab_ow a h)) ∧ (¬ ab_lok a → ∀ h, h < k → σ 88 h = nI (ab_ow a h)) ∧ μ = (ab_hc a - k, 0, 0) ∧ L = [.ref 82, .int v, .int (ab_lf a), .int (nI k)] ∧ S = []
theorem k_N_lotsNow {l : Launch} {X : ra_X} {a : Ab} (hW : ab_W a) : ra_MOK l X mi_N_lotsNow (sp_N_lotsNow a) := by
  refine g_N_lotsNow (k_N_readsHouses hW) (k_N_readsLots hW) (sp_N_lotsNow a) (I_N_lotsNow a) ?_ ?_
  · intro as σ Z _ _ h
    obtain ⟨rfl, hT, h⟩ := x_f0 h
    simp only [b_N_lotsNow_54, b_N_lotsNow_47, b_N_lotsNow_44, b_N_lotsNow_40, b_N_lotsNow_25, b_N_lotsNow_20, b_N_lotsNow_12, b_N_lotsNow_0, e_il2, e_il3, e_al0, e_is1i, e_is1r, e_is1n, e_is2i, e_is2r, e_is2n, e_is3i, e_is3r, e_is3n, e_inc3i, e_inc3r, e_inc3n, e_c, e_i2, e_b2, e_gi, e_gr, e_ast, e_ir, e_cv1, e_hd, e_c10, e_c1i, e_c1r, e_sh0, e_sh1, e_sh2, e_sh3, e_sh4, e_tls, e_tln, e_tl0, e_tl1, cl_82, cl_88, ln_88, tg_82_6, q_N_readsHouses, q_N_readsLots, Nat.reduceAdd, true_and, and_true, true_implies, not_true_eq_false, false_implies, not_false_eq_true, imp_self, forall_const, List.append_nil, ra_I, ra_J, ra_pad, true_or, or_true, Nat.reduceEqDiff, ra_bz, eq_self, if_true, if_false, false_and, and_false, Nat.zero_le, List.cons_append, List.nil_append, Nat.reduceLT, Nat.reduceLeDiff, Nat.reduceMul, Nat.reduceSub]
    refine ⟨hT, fun σ1 hH hf => ⟨hT.fr hf (by decide) (by decide), hH.1, fun σ2 h1 h2 h3 => ⟨_, rfl, 0, _, by omega, (hf.mono (by decide)).tr h2 (by decide), ⟨by rw [h3]; exact hH.1, fun h hh => ?_⟩, h1, fun _ h hh => by omega, rfl, rfl, rfl⟩⟩⟩
    rw [h2.1 85 (by decide) (by decide), h2.1 86 (by decide) (by decide), h2.1 87 (by decide) (by decide)]
    exact hH.2 h hh
  · intro as σ0 Z h0 μ L S σ hI
    obtain ⟨rfl, k, v, hk, hfr, hH, hok, hnok, rfl, rfl, rfl⟩ := hI
    obtain ⟨-, hT0, hZ⟩ := x_f0 h0
    have h8 := ab_hc_8 a
    have hlo := ab_lok_lf a hW
    simp (disch := omega) only [b_N_lotsNow_54, b_N_lotsNow_47, b_N_lotsNow_44, b_N_lotsNow_40, b_N_lotsNow_25, b_N_lotsNow_20, b_N_lotsNow_12, b_N_lotsNow_0, e_il2, e_il3, e_al0, e_is1i, e_is1r, e_is1n, e_is2i, e_is2r, e_is2n, e_is3i, e_is3r, e_is3n, e_inc3i, e_inc3r, e_inc3n, e_c, e_i2, e_b2, e_gi, e_gr, e_ast, e_ir, e_cv1, e_hd, e_c10, e_c1i, e_c1r, e_sh0, e_sh1, e_sh2, e_sh3, e_sh4, e_tls, e_tln, e_tl0, e_tl1, cl_82, cl_88, ln_88, tg_82_6, q_N_readsHouses, q_N_readsLots, Nat.reduceAdd, true_and, and_true, true_implies, not_true_eq_false, false_implies, not_false_eq_true, imp_self, forall_const, List.append_nil, ra_I, ra_J, ra_pad, true_or, or_true, Nat.reduceEqDiff, ra_bz, eq_self, if_true, if_false, false_and, and_false, Nat.zero_le, List.cons_append, List.nil_append, Nat.reduceLT, Nat.reduceLeDiff, Nat.reduceMul, Nat.reduceSub, n_0, n_1, n_2, n_3, n_4, n_5, n_6, n_7, n_8, n_9, n_10, n_12, n_40, n_48, n_57, n_59, n_72, n_99, n_102, n_103, n_107, n_108, n_192, n_255, n_256, n_999, n_1000, n_104, nI_add, pk_mul, n_cl, n_in, n_le, n_lt, n_eq, n_m1, n_m1', n_lem1, n_m1le, n_ltm1, n_m1lt, n_lepred, n_shl, fa_or, hH.1]
    refine ⟨fun q => hZ σ ⟨hH, fun h hh => ?_⟩ hfr, fun q => ⟨fun q2 => hZ σ ⟨hH, hok (hlo.mpr q2)⟩ hfr, fun q2 => ?_⟩⟩
    · by_cases z : ab_lok a
      · exact hok z h hh
      · exact hnok z h (by omega)
    · have hno : ¬ ab_lok a := fun z => q2 (hlo.mp z)
      have how : ∀ x, x = nI (ab_ow a k) → ∃ μ', ra_lx μ' (ab_hc a - k, 0, 0) ∧ I_N_lotsNow a Z [Value.ref 82] σ0 12 μ' [Value.ref 82, Value.int v, Value.int (ab_lf a), Value.int (nI (k + 1))] [] (ra_sw σ 88 k x) := by
        intro x hx
        refine ⟨(ab_hc a - (k + 1), 0, 0), Or.inl (by show ab_hc a - (k + 1) < ab_hc a - k; omega), rfl, k + 1, v, by omega, hfr.sw (by decide) (by decide), ⟨by simpa [sw_at] using hH.1, fun h hh => by simpa [sw_at] using hH.2 h hh⟩, fun z => absurd z hno, fun _ h hh => ?_, rfl, rfl, rfl⟩
        rw [sw_at, if_pos rfl]
        split
        · next e => rw [e, hx]
        · exact hnok hno h (by omega)
      have e : ab_ow a k = if k + 1 < ab_hc a then k + 1 else 0 := by
        unfold ab_ow
        exact if_neg hno
      refine ⟨fun q3 => ⟨by omega, how _ ?_⟩, fun q3 => ⟨by omega, how _ ?_⟩⟩
      · rw [e, if_neg (by omega)]
      · rw [e, if_pos (by omega)]
def sp_N_reads (a : Ab) : ra_Sp := ra_f0 82 (fun σ Z => rn_T a σ ∧ ∀ σ', rn_P a σ' → ra_fr [85, 86, 87, 88] σ σ' → Z none σ')
theorem q_N_reads {a : Ab} {oo : Nat} {σ : ra_St} {Z : ra_R} : sp_N_reads a [.ref oo] σ Z = (oo = 82 ∧ (rn_T a σ ∧ ∀ σ', rn_P a σ' → ra_fr [85, 86, 87, 88] σ σ' → Z none σ')) := rfl
theorem k_N_reads {l : Launch} {X : ra_X} {a : Ab} (hW : ab_W a) : ra_MOK l X mi_N_reads (sp_N_reads a) := by
  refine g_N_reads (k_N_lotsNow hW) (sp_N_reads a) ?_
  intro as σ Z _ _ h
  obtain ⟨rfl, hT, h⟩ := x_f0 h
  simp only [b_N_reads_0, e_al0, e_is1i, e_is1r, e_is1n, e_vr, e_cv1, e_hd, e_c10, e_c1i, e_c1r, e_sh0, e_sh1, e_sh2, e_sh3, e_sh4, e_tls, e_tln, e_tl0, e_tl1, cl_82, q_N_lotsNow, Nat.reduceAdd, true_and, and_true, true_implies, not_true_eq_false, false_implies, not_false_eq_true, imp_self, forall_const, List.append_nil, ra_I, ra_J, ra_pad, true_or, or_true, Nat.reduceEqDiff, ra_bz, eq_self, if_true, if_false, false_and, and_false, Nat.zero_le, List.cons_append, List.nil_append, Nat.reduceLT, Nat.reduceLeDiff, Nat.reduceMul, Nat.reduceSub]
  exact ⟨hT, h⟩
def sp_N_faultOf (a : Ab) : ra_Sp := ra_f1 82 (fun t σ Z => rn_T a σ ∧ (t = 0 → ∀ σ', rn_H a σ' → ra_fr [85, 86, 87, 88] σ σ' → Z (some (.int (ab_hf a))) σ') ∧ (¬ t = 0 → ∀ σ', rn_P a σ' → ra_fr [85, 86, 87, 88] σ σ' → Z (some (.int (ab_lf a))) σ'))
theorem q_N_faultOf {a : Ab} {oo : Nat} {t : Int32} {σ : ra_St} {Z : ra_R} : sp_N_faultOf a [.ref oo, .int t] σ Z = (oo = 82 ∧ (rn_T a σ ∧ (t = 0 → ∀ σ', rn_H a σ' → ra_fr [85, 86, 87, 88] σ σ' → Z (some (.int (ab_hf a))) σ') ∧ (¬ t = 0 → ∀ σ', rn_P a σ' → ra_fr [85, 86, 87, 88] σ σ' → Z (some (.int (ab_lf a))) σ'))) := rfl
theorem k_N_faultOf {l : Launch} {X : ra_X} {a : Ab} (hW : ab_W a) : ra_MOK l X mi_N_faultOf (sp_N_faultOf a) := by
  refine g_N_faultOf (k_N_readsHouses hW) (k_N_lotsNow hW) (sp_N_faultOf a) ?_
  intro as σ Z _ _ h
  obtain ⟨t, rfl, hT, h1, h2⟩ := x_f1 h
  simp only [b_N_faultOf_15, b_N_faultOf_11, b_N_faultOf_4, b_N_faultOf_0, e_al0, e_il1, e_b1, e_ir, e_cv1, e_hd, e_c10, e_c1i, e_c1r, e_sh0, e_sh1, e_sh2, e_sh3, e_sh4, e_tls, e_tln, e_tl0, e_tl1, cl_82, q_N_readsHouses, q_N_lotsNow, Nat.reduceAdd, true_and, and_true, true_implies, not_true_eq_false, false_implies, not_false_eq_true, imp_self, forall_const, List.append_nil, ra_I, ra_J, ra_pad, true_or, or_true, Nat.reduceEqDiff, ra_bz, eq_self, if_true, if_false, false_and, and_false, Nat.zero_le, List.cons_append, List.nil_append, Nat.reduceLT, Nat.reduceLeDiff, Nat.reduceMul, Nat.reduceSub]
  exact ⟨fun q => ⟨hT, fun σ' g1 g2 => h1 q σ' g1 (g2.mono (by decide))⟩, fun q => ⟨hT, h2 q⟩⟩
def sp_N_isHouse (a : Ab) : ra_Sp := ra_f1 82 (fun x σ Z => rn_T a σ ∧ ∀ σ', rn_P a σ' → ra_fr [85, 86, 87, 88] σ σ' → ra_bz (0 ≤ x ∧ x ≤ nI (ab_hc a) - 1) Z σ')
theorem q_N_isHouse {a : Ab} {oo : Nat} {x : Int32} {σ : ra_St} {Z : ra_R} : sp_N_isHouse a [.ref oo, .int x] σ Z = (oo = 82 ∧ (rn_T a σ ∧ ∀ σ', rn_P a σ' → ra_fr [85, 86, 87, 88] σ σ' → ra_bz (0 ≤ x ∧ x ≤ nI (ab_hc a) - 1) Z σ')) := rfl
theorem k_N_isHouse {l : Launch} {X : ra_X} {a : Ab} (hW : ab_W a) : ra_MOK l X mi_N_isHouse (sp_N_isHouse a) := by
  refine g_N_isHouse (k_N_reads hW) k_N_in (sp_N_isHouse a) ?_
  intro as σ Z _ _ h
  obtain ⟨t, rfl, hT, h⟩ := x_f1 h
  simp only [b_N_isHouse_0, e_al0, e_il1, e_c, e_i2, e_gi, e_zr, e_cs3, e_cv1, e_hd, e_c10, e_c1i, e_c1r, e_sh0, e_sh1, e_sh2, e_sh3, e_sh4, e_tls, e_tln, e_tl0, e_tl1, cl_82, q_N_reads, q_N_in, Nat.reduceAdd, true_and, and_true, true_implies, not_true_eq_false, false_implies, not_false_eq_true, imp_self, forall_const, List.append_nil, ra_I, ra_J, ra_pad, true_or, or_true, Nat.reduceEqDiff, ra_bz, eq_self, if_true, if_false, false_and, and_false, Nat.zero_le, List.cons_append, List.nil_append, Nat.reduceLT, Nat.reduceLeDiff, Nat.reduceMul, Nat.reduceSub]
  refine ⟨hT, fun σ' g1 g2 => ?_⟩
  have := h σ' g1 g2
  rw [g1.1.1]
  exact this
def sp_N_ownerOf (a : Ab) : ra_Sp := ra_f1 82 (fun x σ Z => rn_P a σ ∧ vp_in x (ab_hc a) ∧ Z (some (.int (nI (ab_on a x.toNatClampNeg)))) σ)
theorem q_N_ownerOf {a : Ab} {oo : Nat} {x : Int32} {σ : ra_St} {Z : ra_R} : sp_N_ownerOf a [.ref oo, .int x] σ Z = (oo = 82 ∧ (rn_P a σ ∧ vp_in x (ab_hc a) ∧ Z (some (.int (nI (ab_on a x.toNatClampNeg)))) σ)) := rfl
def I_N_ownerOf (a : Ab) (Z : ra_R) (as : List Value) (σ0 : ra_St) (t : Nat) (μ : ra_M) : ra_K := fun L S σ => σ = σ0 ∧ ∃ x h : Nat, as = [.ref 82, .int (nI x)] ∧ x < ab_hc a ∧ h < ab_hc a ∧ (∀ j, j < h → ab_ow a j ≠ x) ∧ μ = (9 - h, 0, 0) ∧ L = [.ref 82, .int (nI x), .int (nI h)] ∧ S = []
theorem k_N_ownerOf {l : Launch} {X : ra_X} {a : Ab} : ra_MOK l X mi_N_ownerOf (sp_N_ownerOf a) := by
  have h8 := ab_hc_8 a
  refine g_N_ownerOf (sp_N_ownerOf a) (I_N_ownerOf a) ?_ ?_
  · intro as σ Z _ _ h
    obtain ⟨t, rfl, hP, ht, h⟩ := x_f1 h
    obtain ⟨x, hx, rfl⟩ := vp_in_of ht (by omega)
    simp only [b_N_ownerOf_18, b_N_ownerOf_12, b_N_ownerOf_2, b_N_ownerOf_0, e_il2, e_al0, e_il1, e_is2i, e_is2r, e_is2n, e_inc2i, e_inc2r, e_inc2n, e_c, e_b2, e_gr, e_ald, e_ir, cl_82, cl_88, ln_88, tg_82_6, Nat.reduceAdd, true_and, and_true, true_implies, not_true_eq_false, false_implies, not_false_eq_true, imp_self, forall_const, List.append_nil, ra_I, ra_J, ra_pad, true_or, or_true, Nat.reduceEqDiff, ra_bz, eq_self, if_true, if_false, false_and, and_false, Nat.zero_le, List.cons_append, List.nil_append, Nat.reduceLT, Nat.reduceLeDiff, Nat.reduceMul, Nat.reduceSub]
    exact ⟨_, rfl, x, 0, rfl, hx, by omega, fun j hj => by omega, rfl, rfl, rfl⟩
  · intro as σ0 Z h0 μ L S σ hI
    obtain ⟨rfl, x, h, rfl, hx, hh, hno, rfl, rfl, rfl⟩ := hI
    obtain ⟨t, e, hP, ht, hZ⟩ := x_f1 h0
    cases e
    rw [n_cl (by omega)] at hZ
    have how := ab_ow_lt hh
    simp (disch := omega) only [b_N_ownerOf_18, b_N_ownerOf_12, b_N_ownerOf_2, b_N_ownerOf_0, e_il2, e_al0, e_il1, e_is2i, e_is2r, e_is2n, e_inc2i, e_inc2r, e_inc2n, e_c, e_b2, e_gr, e_ald, e_ir, cl_82, cl_88, ln_88, tg_82_6, Nat.reduceAdd, true_and, and_true, true_implies, not_true_eq_false, false_implies, not_false_eq_true, imp_self, forall_const, List.append_nil, ra_I, ra_J, ra_pad, true_or, or_true, Nat.reduceEqDiff, ra_bz, eq_self, if_true, if_false, false_and, and_false, Nat.zero_le, List.cons_append, List.nil_append, Nat.reduceLT, Nat.reduceLeDiff, Nat.reduceMul, Nat.reduceSub, n_0, n_1, n_2, n_3, n_4, n_5, n_6, n_7, n_8, n_9, n_10, n_12, n_40, n_48, n_57, n_59, n_72, n_99, n_102, n_103, n_107, n_108, n_192, n_255, n_256, n_999, n_1000, n_104, nI_add, pk_mul, n_cl, n_in, n_le, n_lt, n_eq, n_m1, n_m1', n_lem1, n_m1le, n_ltm1, n_m1lt, n_lepred, n_shl, fa_or, hP.2 h hh]
    refine ⟨by omega, fun q => ?_, fun q => ⟨(9 - (h + 1), 0, 0), Or.inl (by show 9 - (h + 1) < 9 - h; omega), rfl, x, h + 1, rfl, hx, ?_, fun j hj => ?_, rfl, rfl, rfl⟩⟩
    · rw [show ab_on a x = h by rw [← q]; exact ab_on_ow hh] at hZ
      exact hZ
    · have h1 := ab_on_spec hx
      rcases Nat.lt_or_ge (h + 1) (ab_hc a) with z | z
      · exact z
      · rcases (show ab_on a x < h ∨ ab_on a x = h by omega) with w | w
        · exact absurd h1.2 (hno _ w)
        · rw [w] at h1
          exact absurd h1.2 q
    · rcases (show j < h ∨ j = h by omega) with z | rfl
      · exact hno j z
      · exact q
