def bmx (g : Nat → Nat) (p : Nat → Bool) : Nat → Nat
  | 0 => 0
  | n + 1 => if p n = true ∧ bmx g p n < g n then g n else bmx g p n
theorem bmx_ge {g : Nat → Nat} {p : Nat → Bool} : ∀ {n r : Nat}, r < n → p r = true → g r ≤ bmx g p n
  | 0, r, h, _ => by omega
  | n + 1, r, h, hp => by
    rw [bmx]
    rcases (show r < n ∨ r = n by omega) with q | rfl
    · have := bmx_ge (g := g) q hp
      split <;> omega
    · split
      · omega
      · next z => exact Nat.le_of_not_lt (fun y => z ⟨hp, y⟩)
theorem bmx_at {g : Nat → Nat} {p : Nat → Bool} : ∀ {n : Nat}, (∃ r, r < n ∧ p r = true) → ∃ r, r < n ∧ p r = true ∧ g r = bmx g p n
  | 0, h => by obtain ⟨r, h, _⟩ := h; omega
  | n + 1, h => by
    rw [bmx]
    split
    · next z => exact ⟨n, by omega, z.1, rfl⟩
    · next z =>
      by_cases e : ∃ r, r < n ∧ p r = true
      · obtain ⟨r, h1, h2, h3⟩ := bmx_at (g := g) e
        exact ⟨r, by omega, h2, h3⟩
      · obtain ⟨r, h1, h2⟩ := h
        have hr : r = n := by
          rcases (show r < n ∨ r = n by omega) with q | q
          · exact absurd ⟨r, q, h2⟩ e
          · exact q
        subst hr
        have h0 : bmx g p r = 0 := by
          clear z h1 h2
          induction r with
          | zero => rfl
          | succ m ih =>
            rw [bmx, if_neg (fun y => e ⟨m, by omega, y.1⟩)]
            exact ih (fun ⟨k, h1, h2⟩ => e ⟨k, by omega, h2⟩)
        refine ⟨r, by omega, h2, ?_⟩
        have : ¬ bmx g p r < g r := fun y => z ⟨h2, y⟩
        omega
theorem bmx_none {g : Nat → Nat} {p : Nat → Bool} : ∀ {n : Nat}, (∀ r, r < n → p r = false) → bmx g p n = 0
  | 0, _ => rfl
  | n + 1, h => by
    rw [bmx, if_neg (fun y => by rw [h n (by omega)] at y; exact absurd y.1 (by decide))]
    exact bmx_none (fun r hr => h r (by omega))
theorem bmx_le {g : Nat → Nat} {p : Nat → Bool} {c : Nat} (h : ∀ r, g r ≤ c) : ∀ n, bmx g p n ≤ c
  | 0 => Nat.zero_le _
  | n + 1 => by
    rw [bmx]
    have := bmx_le (p := p) h n
    have := h n
    split <;> omega
/-- so far, or nothing yet -/
def bmI (g : Nat → Nat) (p : Nat → Bool) (n : Nat) : Int32 := if fb_ct p n = 0 then -1 else nI (bmx g p n)
theorem bmI_no {g : Nat → Nat} {p : Nat → Bool} {n : Nat} (h : p n = false) : bmI g p (n + 1) = bmI g p n := by
  have h1 : ¬ p n = true := by rw [h]; decide
  have e1 : fb_ct p (n + 1) = fb_ct p n := by rw [fb_ct_succ, if_neg h1]; rfl
  have e2 : bmx g p (n + 1) = bmx g p n := by rw [bmx, if_neg (fun y => h1 y.1)]
  unfold bmI
  rw [e1, e2]
theorem bmI_yes {g : Nat → Nat} {p : Nat → Bool} {n : Nat} (hg : ∀ r, g r < 100000) (h : p n = true) : (nI (g n) ≤ bmI g p n → bmI g p (n + 1) = bmI g p n) ∧ (¬ nI (g n) ≤ bmI g p n → bmI g p (n + 1) = nI (g n)) := by
  have h1 := bmx_le (p := p) (fun r => Nat.le_of_lt (hg r)) n
  have h2 := hg n
  unfold bmI
  rw [fb_ct_succ, if_pos h, bmx, if_neg (show ¬ fb_ct p n + 1 = 0 by omega)]
  by_cases h0 : fb_ct p n = 0
  · rw [if_pos h0]
    have hz : bmx g p n = 0 := bmx_none (fun r hr => fb_ct_zero.mp h0 r hr)
    have h3 : (nI (g n) ≤ -1) = False := n_lem1 (by omega)
    rw [h3, hz]
    refine ⟨fun z => z.elim, fun _ => ?_⟩
    by_cases e : 0 < g n
    · rw [if_pos ⟨h, e⟩]
    · rw [if_neg (fun y => e y.2), show g n = 0 by omega]
  · rw [if_neg h0, n_le (by omega) (by omega)]
    refine ⟨fun z => ?_, fun z => ?_⟩
    · rw [if_neg (fun y => by omega)]
    · rw [if_pos ⟨h, by omega⟩]
/-- the most wishes of the houses behind, when these roofs are taken -/
def bv (a : Ab) : Nat → Nat → Nat
  | 0, _ => 0
  | n + 1, s => bmx (fun r => mk_w a (ab_hc a - (n + 1)) r + bv a n (s ||| 2 ^ r)) (fun r => !s.testBit r) (ab_hc a)
def bV (a : Ab) (s : Nat) : Nat := bv a (ab_hc a - n_pop s) s
theorem bv_le {a : Ab} (hW : ab_W a) : ∀ n s, bv a n s ≤ 9 * n
  | 0, _ => Nat.zero_le _
  | n + 1, s => by
    rw [bv]
    refine bmx_le (fun r => ?_) _
    have := bv_le hW n (s ||| 2 ^ r)
    have := hW.2.2.2.2.2.2.2.2.2.1 (8 * (ab_hc a - (n + 1)) + r)
    unfold mk_w
    omega
theorem bV_le {a : Ab} (hW : ab_W a) (s : Nat) : bV a s ≤ 72 := by
  have := bv_le hW (ab_hc a - n_pop s) s
  have := ab_hc_8 a
  unfold bV
  omega
theorem n_pop_set {s r : Nat} (hr : r < 8) (h : s.testBit r = false) : n_pop (s ||| 2 ^ r) = n_pop s + 1 := fb_ct_set hr h
theorem bV_step {a : Ab} {s : Nat} (h : n_pop s < ab_hc a) : bV a s = bmx (fun r => mk_w a (n_pop s) r + bV a (s ||| 2 ^ r)) (fun r => !s.testBit r) (ab_hc a) := by
  have h8 := ab_hc_8 a
  unfold bV
  obtain ⟨m, hm⟩ : ∃ m, ab_hc a - n_pop s = m + 1 := ⟨ab_hc a - n_pop s - 1, by omega⟩
  rw [hm, bv]
  have key : ∀ n, n ≤ ab_hc a → bmx (fun r => mk_w a (ab_hc a - (m + 1)) r + bv a m (s ||| 2 ^ r)) (fun r => !s.testBit r) n = bmx (fun r => mk_w a (n_pop s) r + bv a (ab_hc a - n_pop (s ||| 2 ^ r)) (s ||| 2 ^ r)) (fun r => !s.testBit r) n := by
    intro n
    induction n with
    | zero => intro _; rfl
    | succ n ih =>
      intro hn
      rw [bmx, bmx, ih (by omega)]
      by_cases hb : s.testBit n = true
      · rw [if_neg (fun y => by simp [hb] at y), if_neg (fun y => by simp [hb] at y)]
      · rw [n_pop_set (by omega) (ts_nt' hb), show ab_hc a - (m + 1) = n_pop s by omega, show ab_hc a - (n_pop s + 1) = m by omega]
  exact key _ (Nat.le_refl _)
theorem n_pop_free {n s : Nat} (hn : n ≤ 8) (h : n_pop s < n) : ∃ r, r < n ∧ s.testBit r = false := by
  apply Classical.byContradiction
  intro q
  have h1 : fb_ct (fun i => s.testBit i) n = n := fb_ct_all.mpr (fun k hk => by
    cases e : s.testBit k with
    | true => rfl
    | false => exact absurd ⟨k, hk, e⟩ q)
  have h2 := fb_ct_mono (fun i => s.testBit i) hn
  unfold n_pop at h
  omega
/-- the best row -/
noncomputable def bS (a : Ab) : Nat → Nat
  | 0 => 0
  | h + 1 => bS a h ||| 2 ^ (fa_first (fun r => !(bS a h).testBit r && decide (mk_w a h r + bV a (bS a h ||| 2 ^ r) = bV a (bS a h))) (ab_hc a))
noncomputable def bR (a : Ab) (h : Nat) : Nat := fa_first (fun r => !(bS a h).testBit r && decide (mk_w a h r + bV a (bS a h ||| 2 ^ r) = bV a (bS a h))) (ab_hc a)
theorem bR_of {a : Ab} {h : Nat} (hp : n_pop (bS a h) = h) (hh : h < ab_hc a) : bR a h < ab_hc a ∧ (bS a h).testBit (bR a h) = false ∧ mk_w a h (bR a h) + bV a (bS a h ||| 2 ^ bR a h) = bV a (bS a h) := by
  obtain ⟨r, h1, h2⟩ := n_pop_free (ab_hc_8 a) (show n_pop (bS a h) < ab_hc a by omega)
  have e := bV_step (a := a) (s := bS a h) (by omega)
  obtain ⟨r, g1, g2, g3⟩ := bmx_at (g := fun r => mk_w a (n_pop (bS a h)) r + bV a (bS a h ||| 2 ^ r)) (p := fun r => !(bS a h).testBit r) (n := ab_hc a) ⟨r, h1, by simp [h2]⟩
  rw [← e, hp] at g3
  have hlt : bR a h < ab_hc a := by
    apply Classical.byContradiction
    intro q
    have := fa_first_no (fun r => !(bS a h).testBit r && decide (mk_w a h r + bV a (bS a h ||| 2 ^ r) = bV a (bS a h))) (ab_hc a) r (by unfold bR at q; omega)
    rw [g2, Bool.true_and] at this
    exact absurd g3 (by simpa using this)
  have := fa_first_yes (fun r => !(bS a h).testBit r && decide (mk_w a h r + bV a (bS a h ||| 2 ^ r) = bV a (bS a h))) (ab_hc a) hlt
  rw [Bool.and_eq_true] at this
  exact ⟨hlt, by have := this.1; unfold bR; simpa using this, by have := this.2; unfold bR; simpa using this⟩
theorem bS_pop {a : Ab} : ∀ h, h ≤ ab_hc a → n_pop (bS a h) = h ∧ bS a h < 2 ^ ab_hc a
  | 0, _ => ⟨fb_ct_zero.mpr (fun k _ => Nat.zero_testBit k), Nat.two_pow_pos _⟩
  | h + 1, hh => by
    obtain ⟨h1, h2⟩ := bS_pop (a := a) h (by omega)
    obtain ⟨g1, g2, g3⟩ := bR_of h1 (by omega)
    have e : bS a (h + 1) = bS a h ||| 2 ^ bR a h := rfl
    rw [e]
    exact ⟨by rw [n_pop_set (by have := ab_hc_8 a; omega) g2, h1], Nat.or_lt_two_pow h2 (Nat.pow_lt_pow_right (by decide) g1)⟩
noncomputable def an_be (a : Ab) (x : Int32) : Int32 := if x = -1 then nI (bV a 0) else nI (bR a x.toNatClampNeg)
def sp_N_bestOf (a : Ab) : ra_Sp := ra_f1 82 (fun x σ Z => rn_R a σ ∧ (an_hs a x ∨ x = -1) ∧ ∀ σ', rn_P a σ' → ra_fr rn_scr σ σ' → Z (some (.int (an_be a x))) σ')
theorem q_N_bestOf {a : Ab} {oo : Nat} {x : Int32} {σ : ra_St} {Z : ra_R} : sp_N_bestOf a [.ref oo, .int x] σ Z = (oo = 82 ∧ (rn_R a σ ∧ (an_hs a x ∨ x = -1) ∧ ∀ σ', rn_P a σ' → ra_fr rn_scr σ σ' → Z (some (.int (an_be a x))) σ')) := rfl
/-- the table from level i on -/
def rn_most (a : Ab) (i : Nat) (σ : ra_St) : Prop := ∀ h s, i ≤ h → h ≤ ab_hc a → s < 2 ^ ab_hc a → n_pop s = h → σ 102 (256 * h + s) = nI (bV a s)
def I_N_bestOf (a : Ab) (Z : ra_R) (as : List Value) (σ0 : ra_St) (t : Nat) (μ : ra_M) : ra_K := fun L S σ => S = [] ∧ ∃ (x : Int32) (i s r : Nat) (u v w : Value), as = [.ref 82, .int x] ∧ rn_R a σ ∧ rn_P a σ ∧ ra_fr rn_scr σ0 σ ∧ i ≤ ab_hc a ∧ s ≤ 2 ^ ab_hc a ∧ r ≤ ab_hc a ∧
  match t with
  | 15 => μ = (4, 0, 2 ^ ab_hc a - s) ∧ (∀ j, j < s → σ 102 (256 * ab_hc a + j) = nI 0) ∧ L = [.ref 82, .int x, .int (nI (2 ^ ab_hc a - 1)), .int (nI s), u, v, w]
  | 49 => μ = (3, i, 10000) ∧ rn_most a i σ ∧ L = [.ref 82, .int x, .int (nI (2 ^ ab_hc a - 1)), .int (nI i - nI 1), u, v, w]
  | 56 => μ = (3, i + 1, (2 ^ ab_hc a - s) * 20 + 19) ∧ i < ab_hc a ∧ rn_most a (i + 1) σ ∧ (∀ j, j < s → n_pop j = i → σ 102 (256 * i + j) = nI (bV a j)) ∧ L = [.ref 82, .int x, .int (nI (2 ^ ab_hc a - 1)), .int (nI i), .int (nI s), v, w]
  | 79 => μ = (3, i + 1, (2 ^ ab_hc a - s) * 20 + (ab_hc a - r)) ∧ i < ab_hc a ∧ s < 2 ^ ab_hc a ∧ rn_most a (i + 1) σ ∧ (∀ j, j < s → n_pop j = i → σ 102 (256 * i + j) = nI (bV a j)) ∧ (n_pop s = i → σ 102 (256 * i + s) = bmI (fun r => mk_w a i r + bV a (s ||| 2 ^ r)) (fun r => !s.testBit r) r) ∧ L = [.ref 82, .int x, .int (nI (2 ^ ab_hc a - 1)), .int (nI i), .int (nI s), .int (nI r), w]
  | 218 => μ = (1, ab_hc a - i, 100) ∧ rn_most a 0 σ ∧ (∀ j, j < i → σ 101 j = nI (bR a j)) ∧ L = [.ref 82, .int x, .int (nI (2 ^ ab_hc a - 1)), .int (nI (bS a i)), .int (nI i), v, w]
  | _ => μ = (1, ab_hc a - i, ab_hc a - r) ∧ i < ab_hc a ∧ r ≤ bR a i ∧ rn_most a 0 σ ∧ (∀ j, j < i → σ 101 j = nI (bR a j)) ∧ L = [.ref 82, .int x, .int (nI (2 ^ ab_hc a - 1)), .int (nI (bS a i)), .int (nI i), .int (nI r), w]
theorem pow_256 (a : Ab) : 1 ≤ 2 ^ ab_hc a ∧ 2 ^ ab_hc a ≤ 256 := ⟨Nat.two_pow_pos _, by have := Nat.pow_le_pow_right (show 2 > 0 by decide) (ab_hc_8 a); exact this⟩
theorem rn_most.sw {a : Ab} {i k : Nat} {σ : ra_St} {v : Int32} (h : rn_most a i σ) (hk : k < 256 * i) : rn_most a i (ra_sw σ 102 k v) := by
  intro h' s h1 h2 h3 h4
  rw [sw_at, if_pos rfl, if_neg (by omega)]
  exact h h' s h1 h2 h3 h4
theorem k_N_bestOf {l : Launch} {X : ra_X} {a : Ab} (hW : ab_W a) : ra_MOK l X mi_N_bestOf (sp_N_bestOf a) := by
  have h8 := ab_hc_8 a
  obtain ⟨p1, p2⟩ := pow_256 a
  refine g_N_bestOf (k_N_reads hW) k_N_ones k_N_isIn (sp_N_bestOf a) (I_N_bestOf a) ?_ ?_ ?_ ?_ ?_ ?_ ?_
  · intro as σ Z _ _ h
    obtain ⟨x, rfl, hR, hx, hZ⟩ := x_f1 h
    simp (disch := omega) only [b_N_bestOf_337, b_N_bestOf_331, b_N_bestOf_322, b_N_bestOf_317, b_N_bestOf_295, b_N_bestOf_289, b_N_bestOf_239, b_N_bestOf_230, b_N_bestOf_227, b_N_bestOf_218, b_N_bestOf_213, b_N_bestOf_207, b_N_bestOf_201, b_N_bestOf_194, b_N_bestOf_181, b_N_bestOf_176, b_N_bestOf_144, b_N_bestOf_111, b_N_bestOf_107, b_N_bestOf_97, b_N_bestOf_88, b_N_bestOf_79, b_N_bestOf_62, b_N_bestOf_56, b_N_bestOf_53, b_N_bestOf_49, b_N_bestOf_42, b_N_bestOf_20, b_N_bestOf_15, b_N_bestOf_0, e_al0, e_il1, e_il4, e_il5, e_il3, e_il6, e_il2, e_is3i, e_is3r, e_is3n, e_is5i, e_is5r, e_is5n, e_is4i, e_is4r, e_is4n, e_is6i, e_is6r, e_is6n, e_is2i, e_is2r, e_is2n, e_inc4i, e_inc4r, e_inc4n, e_inc5i, e_inc5r, e_inc5n, e_inc3i, e_inc3r, e_inc3n, e_c, e_i2, e_b1, e_b2, e_gi, e_gr, e_ald, e_ast, e_ir, e_cs2, e_cs1, e_cv1, e_hd, e_c10, e_c1i, e_c1r, e_sh0, e_sh1, e_sh2, e_sh3, e_sh4, e_tls, e_tln, e_tl0, e_tl1, cl_82, cl_100, ln_100, cl_101, ln_101, cl_102, ln_102, tg_82_19, tg_82_20, tg_82_21, q_N_reads, q_N_ones, q_N_isIn, Nat.reduceAdd, true_and, and_true, true_implies, not_true_eq_false, false_implies, not_false_eq_true, imp_self, forall_const, List.append_nil, ra_I, ra_J, ra_pad, true_or, or_true, Nat.reduceEqDiff, ra_bz, eq_self, if_true, if_false, false_and, and_false, Nat.zero_le, List.cons_append, List.nil_append, Nat.reduceLT, Nat.reduceLeDiff, Nat.reduceMul, Nat.reduceSub, n_0, n_1, n_2, n_3, n_4, n_5, n_6, n_7, n_8, n_9, n_10, n_12, n_40, n_48, n_57, n_59, n_72, n_99, n_102, n_103, n_107, n_108, n_192, n_255, n_256, n_999, n_1000, n_104, nI_add, pk_mul, n_cl, n_inT, n_le, n_lt, n_eq, n_m1, n_m1', n_lem1, n_m1le, n_ltm1, n_m1lt, n_lepred, n_shl, fa_or]
    refine ⟨hR.1, fun σ1 hP hf => ?_⟩
    rw [hP.1.1, n_shl (by omega), n_sub (by omega)]
    exact ⟨_, rfl, x, 0, 0, 0, _, _, _, rfl, hR.fr hf (by decide), hP, hf.mono (by decide), by omega, by omega, by omega, rfl, fun j hj => by omega, rfl⟩
  · -- 15
    intro as σ0 Z h0 μ L S σ hI
    obtain ⟨rfl, x, i, s, r, u, v, w, rfl, hR, hP, hf, hi, hs, hr, rfl, hq, rfl⟩ := hI
    simp (disch := omega) only [b_N_bestOf_337, b_N_bestOf_331, b_N_bestOf_322, b_N_bestOf_317, b_N_bestOf_295, b_N_bestOf_289, b_N_bestOf_239, b_N_bestOf_230, b_N_bestOf_227, b_N_bestOf_218, b_N_bestOf_213, b_N_bestOf_207, b_N_bestOf_201, b_N_bestOf_194, b_N_bestOf_181, b_N_bestOf_176, b_N_bestOf_144, b_N_bestOf_111, b_N_bestOf_107, b_N_bestOf_97, b_N_bestOf_88, b_N_bestOf_79, b_N_bestOf_62, b_N_bestOf_56, b_N_bestOf_53, b_N_bestOf_49, b_N_bestOf_42, b_N_bestOf_20, b_N_bestOf_15, b_N_bestOf_0, e_al0, e_il1, e_il4, e_il5, e_il3, e_il6, e_il2, e_is3i, e_is3r, e_is3n, e_is5i, e_is5r, e_is5n, e_is4i, e_is4r, e_is4n, e_is6i, e_is6r, e_is6n, e_is2i, e_is2r, e_is2n, e_inc4i, e_inc4r, e_inc4n, e_inc5i, e_inc5r, e_inc5n, e_inc3i, e_inc3r, e_inc3n, e_c, e_i2, e_b1, e_b2, e_gi, e_gr, e_ald, e_ast, e_ir, e_cs2, e_cs1, e_cv1, e_hd, e_c10, e_c1i, e_c1r, e_sh0, e_sh1, e_sh2, e_sh3, e_sh4, e_tls, e_tln, e_tl0, e_tl1, cl_82, cl_100, ln_100, cl_101, ln_101, cl_102, ln_102, tg_82_19, tg_82_20, tg_82_21, q_N_reads, q_N_ones, q_N_isIn, Nat.reduceAdd, true_and, and_true, true_implies, not_true_eq_false, false_implies, not_false_eq_true, imp_self, forall_const, List.append_nil, ra_I, ra_J, ra_pad, true_or, or_true, Nat.reduceEqDiff, ra_bz, eq_self, if_true, if_false, false_and, and_false, Nat.zero_le, List.cons_append, List.nil_append, Nat.reduceLT, Nat.reduceLeDiff, Nat.reduceMul, Nat.reduceSub, n_0, n_1, n_2, n_3, n_4, n_5, n_6, n_7, n_8, n_9, n_10, n_12, n_40, n_48, n_57, n_59, n_72, n_99, n_102, n_103, n_107, n_108, n_192, n_255, n_256, n_999, n_1000, n_104, nI_add, pk_mul, n_cl, n_inT, n_le, n_lt, n_eq, n_m1, n_m1', n_lem1, n_m1le, n_ltm1, n_m1lt, n_lepred, n_shl, fa_or, hP.1.1]
    refine ⟨fun z => ?_, fun z => ?_⟩
    · refine ⟨(3, ab_hc a, 10000), lx1 (by decide), rfl, x, ab_hc a, s, r, u, v, w, rfl, hR, hP, hf, by omega, hs, hr, rfl, fun h t h1 h2 h3 h4 => ?_, rfl⟩
      have e : h = ab_hc a := by omega
      rw [e, hq t (by omega)]
      unfold bV
      rw [h4, e, Nat.sub_self]
      rfl
    · have hf1 : ra_fr [102] σ (ra_sw σ 102 (256 * ab_hc a + s) (nI 0)) := ra_fr.rf.sw (by decide) (by decide)
      refine ⟨vi (by omega) (by decide), (4, 0, 2 ^ ab_hc a - (s + 1)), lx3 (by omega), rfl, x, i, s + 1, r, u, v, w, rfl, ?_⟩
      refine ⟨hR.fr hf1 (by decide), hP.fr hf1 (by simp [sw_at]) (by decide), hf.tr hf1 (by decide), hi, by omega, hr, rfl, fun j hj => ?_, rfl⟩
      rw [sw_at, if_pos rfl]
      split
      · rfl
      · exact hq j (by omega)
  · -- 49
    intro as σ0 Z h0 μ L S σ hI
    obtain ⟨rfl, x, i, s, r, u, v, w, rfl, hR, hP, hf, hi, hs, hr, rfl, hq, rfl⟩ := hI
    cases i with
    | zero =>
      simp (disch := omega) only [b_N_bestOf_337, b_N_bestOf_331, b_N_bestOf_322, b_N_bestOf_317, b_N_bestOf_295, b_N_bestOf_289, b_N_bestOf_239, b_N_bestOf_230, b_N_bestOf_227, b_N_bestOf_218, b_N_bestOf_213, b_N_bestOf_207, b_N_bestOf_201, b_N_bestOf_194, b_N_bestOf_181, b_N_bestOf_176, b_N_bestOf_144, b_N_bestOf_111, b_N_bestOf_107, b_N_bestOf_97, b_N_bestOf_88, b_N_bestOf_79, b_N_bestOf_62, b_N_bestOf_56, b_N_bestOf_53, b_N_bestOf_49, b_N_bestOf_42, b_N_bestOf_20, b_N_bestOf_15, b_N_bestOf_0, e_al0, e_il1, e_il4, e_il5, e_il3, e_il6, e_il2, e_is3i, e_is3r, e_is3n, e_is5i, e_is5r, e_is5n, e_is4i, e_is4r, e_is4n, e_is6i, e_is6r, e_is6n, e_is2i, e_is2r, e_is2n, e_inc4i, e_inc4r, e_inc4n, e_inc5i, e_inc5r, e_inc5n, e_inc3i, e_inc3r, e_inc3n, e_c, e_i2, e_b1, e_b2, e_gi, e_gr, e_ald, e_ast, e_ir, e_cs2, e_cs1, e_cv1, e_hd, e_c10, e_c1i, e_c1r, e_sh0, e_sh1, e_sh2, e_sh3, e_sh4, e_tls, e_tln, e_tl0, e_tl1, cl_82, cl_100, ln_100, cl_101, ln_101, cl_102, ln_102, tg_82_19, tg_82_20, tg_82_21, q_N_reads, q_N_ones, q_N_isIn, Nat.reduceAdd, true_and, and_true, true_implies, not_true_eq_false, false_implies, not_false_eq_true, imp_self, forall_const, List.append_nil, ra_I, ra_J, ra_pad, true_or, or_true, Nat.reduceEqDiff, ra_bz, eq_self, if_true, if_false, false_and, and_false, Nat.zero_le, List.cons_append, List.nil_append, Nat.reduceLT, Nat.reduceLeDiff, Nat.reduceMul, Nat.reduceSub, n_0, n_1, n_2, n_3, n_4, n_5, n_6, n_7, n_8, n_9, n_10, n_12, n_40, n_48, n_57, n_59, n_72, n_99, n_102, n_103, n_107, n_108, n_192, n_255, n_256, n_999, n_1000, n_104, nI_add, pk_mul, n_cl, n_inT, n_le, n_lt, n_eq, n_m1, n_m1', n_lem1, n_m1le, n_ltm1, n_m1lt, n_lepred, n_shl, fa_or, n_predlt]
      exact ⟨(1, ab_hc a - 0, 100), lx1 (by decide), rfl, x, 0, s, r, u, v, w, rfl, hR, hP, hf, by omega, hs, hr, rfl, hq, fun j hj => by omega, rfl⟩
    | succ i =>
      rw [show nI (i + 1) - nI 1 = nI i by rw [n_sub (by omega)]; rfl]
      simp (disch := omega) only [b_N_bestOf_337, b_N_bestOf_331, b_N_bestOf_322, b_N_bestOf_317, b_N_bestOf_295, b_N_bestOf_289, b_N_bestOf_239, b_N_bestOf_230, b_N_bestOf_227, b_N_bestOf_218, b_N_bestOf_213, b_N_bestOf_207, b_N_bestOf_201, b_N_bestOf_194, b_N_bestOf_181, b_N_bestOf_176, b_N_bestOf_144, b_N_bestOf_111, b_N_bestOf_107, b_N_bestOf_97, b_N_bestOf_88, b_N_bestOf_79, b_N_bestOf_62, b_N_bestOf_56, b_N_bestOf_53, b_N_bestOf_49, b_N_bestOf_42, b_N_bestOf_20, b_N_bestOf_15, b_N_bestOf_0, e_al0, e_il1, e_il4, e_il5, e_il3, e_il6, e_il2, e_is3i, e_is3r, e_is3n, e_is5i, e_is5r, e_is5n, e_is4i, e_is4r, e_is4n, e_is6i, e_is6r, e_is6n, e_is2i, e_is2r, e_is2n, e_inc4i, e_inc4r, e_inc4n, e_inc5i, e_inc5r, e_inc5n, e_inc3i, e_inc3r, e_inc3n, e_c, e_i2, e_b1, e_b2, e_gi, e_gr, e_ald, e_ast, e_ir, e_cs2, e_cs1, e_cv1, e_hd, e_c10, e_c1i, e_c1r, e_sh0, e_sh1, e_sh2, e_sh3, e_sh4, e_tls, e_tln, e_tl0, e_tl1, cl_82, cl_100, ln_100, cl_101, ln_101, cl_102, ln_102, tg_82_19, tg_82_20, tg_82_21, q_N_reads, q_N_ones, q_N_isIn, Nat.reduceAdd, true_and, and_true, true_implies, not_true_eq_false, false_implies, not_false_eq_true, imp_self, forall_const, List.append_nil, ra_I, ra_J, ra_pad, true_or, or_true, Nat.reduceEqDiff, ra_bz, eq_self, if_true, if_false, false_and, and_false, Nat.zero_le, List.cons_append, List.nil_append, Nat.reduceLT, Nat.reduceLeDiff, Nat.reduceMul, Nat.reduceSub, n_0, n_1, n_2, n_3, n_4, n_5, n_6, n_7, n_8, n_9, n_10, n_12, n_40, n_48, n_57, n_59, n_72, n_99, n_102, n_103, n_107, n_108, n_192, n_255, n_256, n_999, n_1000, n_104, nI_add, pk_mul, n_cl, n_inT, n_le, n_lt, n_eq, n_m1, n_m1', n_lem1, n_m1le, n_ltm1, n_m1lt, n_lepred, n_shl, fa_or]
      exact ⟨fun z => by omega, fun _ => ⟨(3, i + 1, (2 ^ ab_hc a - 0) * 20 + 19), lx3 (by omega), rfl, x, i, 0, r, u, v, w, rfl, hR, hP, hf, by omega, by omega, hr, rfl, by omega, hq, fun j hj => by omega, rfl⟩⟩
  · -- 56
    intro as σ0 Z h0 μ L S σ hI
    obtain ⟨rfl, x, i, s, r, u, v, w, rfl, hR, hP, hf, hi, hs, hr, rfl, hi2, hq, hq2, rfl⟩ := hI
    simp (disch := omega) only [b_N_bestOf_337, b_N_bestOf_331, b_N_bestOf_322, b_N_bestOf_317, b_N_bestOf_295, b_N_bestOf_289, b_N_bestOf_239, b_N_bestOf_230, b_N_bestOf_227, b_N_bestOf_218, b_N_bestOf_213, b_N_bestOf_207, b_N_bestOf_201, b_N_bestOf_194, b_N_bestOf_181, b_N_bestOf_176, b_N_bestOf_144, b_N_bestOf_111, b_N_bestOf_107, b_N_bestOf_97, b_N_bestOf_88, b_N_bestOf_79, b_N_bestOf_62, b_N_bestOf_56, b_N_bestOf_53, b_N_bestOf_49, b_N_bestOf_42, b_N_bestOf_20, b_N_bestOf_15, b_N_bestOf_0, e_al0, e_il1, e_il4, e_il5, e_il3, e_il6, e_il2, e_is3i, e_is3r, e_is3n, e_is5i, e_is5r, e_is5n, e_is4i, e_is4r, e_is4n, e_is6i, e_is6r, e_is6n, e_is2i, e_is2r, e_is2n, e_inc4i, e_inc4r, e_inc4n, e_inc5i, e_inc5r, e_inc5n, e_inc3i, e_inc3r, e_inc3n, e_c, e_i2, e_b1, e_b2, e_gi, e_gr, e_ald, e_ast, e_ir, e_cs2, e_cs1, e_cv1, e_hd, e_c10, e_c1i, e_c1r, e_sh0, e_sh1, e_sh2, e_sh3, e_sh4, e_tls, e_tln, e_tl0, e_tl1, cl_82, cl_100, ln_100, cl_101, ln_101, cl_102, ln_102, tg_82_19, tg_82_20, tg_82_21, q_N_reads, q_N_ones, q_N_isIn, Nat.reduceAdd, true_and, and_true, true_implies, not_true_eq_false, false_implies, not_false_eq_true, imp_self, forall_const, List.append_nil, ra_I, ra_J, ra_pad, true_or, or_true, Nat.reduceEqDiff, ra_bz, eq_self, if_true, if_false, false_and, and_false, Nat.zero_le, List.cons_append, List.nil_append, Nat.reduceLT, Nat.reduceLeDiff, Nat.reduceMul, Nat.reduceSub, n_0, n_1, n_2, n_3, n_4, n_5, n_6, n_7, n_8, n_9, n_10, n_12, n_40, n_48, n_57, n_59, n_72, n_99, n_102, n_103, n_107, n_108, n_192, n_255, n_256, n_999, n_1000, n_104, nI_add, pk_mul, n_cl, n_inT, n_le, n_lt, n_eq, n_m1, n_m1', n_lem1, n_m1le, n_ltm1, n_m1lt, n_lepred, n_shl, fa_or]
    refine ⟨fun z => ?_, fun z => ?_⟩
    · refine ⟨(3, i, 10000), lx2 (by omega), rfl, x, i, s, r, .int (nI s), v, w, rfl, hR, hP, hf, by omega, hs, hr, rfl, fun h t h1 h2 h3 h4 => ?_, ?_⟩
      · rcases (show i + 1 ≤ h ∨ h = i by omega) with y | rfl
        · exact hq h t y h2 h3 h4
        · exact hq2 t (by omega) h4
      · rw [Int32.sub_eq_add_neg]
    · have hf1 : ra_fr [102] σ (ra_sw σ 102 (256 * i + s) (-nI 1)) := ra_fr.rf.sw (by decide) (by decide)
      refine ⟨(3, i + 1, (2 ^ ab_hc a - s) * 20 + (ab_hc a - 0)), lx3 (by omega), rfl, x, i, s, 0, u, v, w, rfl, hR.fr hf1 (by decide), hP.fr hf1 (by simp [sw_at]) (by decide), hf.tr hf1 (by decide), hi, hs, by omega, rfl, hi2, by omega, hq.sw (by omega), fun j hj hj2 => ?_, fun _ => ?_, rfl⟩
      · rw [sw_at, if_pos rfl, if_neg (by omega)]
        exact hq2 j hj hj2
      · rw [sw_at, if_pos rfl, if_pos rfl]
        rfl
  · -- 79
    intro as σ0 Z h0 μ L S σ hI
    obtain ⟨rfl, x, i, s, r, u, v, w, rfl, hR, hP, hf, hi, hs, hr, rfl, hi2, hs2, hq, hq2, hq3, rfl⟩ := hI
    have hp8 := n_pop_le s
    have next : (r = ab_hc a ∨ n_pop s ≠ i) → ∀ v, ∃ μ', ra_lx μ' (3, i + 1, (2 ^ ab_hc a - s) * 20 + (ab_hc a - r)) ∧ I_N_bestOf a Z [.ref 82, .int x] σ0 56 μ' [.ref 82, .int x, .int (nI (2 ^ ab_hc a - 1)), .int (nI i), .int (nI (s + 1)), .int v, w] [] σ := by
      intro h1 v
      refine ⟨(3, i + 1, (2 ^ ab_hc a - (s + 1)) * 20 + 19), lx3 (by omega), rfl, x, i, s + 1, r, u, _, w, rfl, hR, hP, hf, hi, by omega, hr, rfl, hi2, hq, fun j hj hj2 => ?_, rfl⟩
      rcases (show j < s ∨ j = s by omega) with y | rfl
      · exact hq2 j y hj2
      · rcases h1 with h1 | h1
        · rw [hq3 hj2]
          unfold bmI
          obtain ⟨t, t1, t2⟩ := n_pop_free h8 (show n_pop j < ab_hc a by omega)
          rw [h1, if_neg (fun z => by have := fb_ct_zero.mp z t t1; simp [t2] at this), bV_step (by omega), hj2]
        · exact absurd hj2 h1
    by_cases hlt : r < ab_hc a ∧ n_pop s = i
    · obtain ⟨hlt, hpop⟩ := hlt
      have hg : ∀ t, (fun t => mk_w a i t + bV a (s ||| 2 ^ t)) t < 100000 := by
        intro t
        have := bV_le hW (s ||| 2 ^ t)
        have := hW.2.2.2.2.2.2.2.2.2.1 (8 * i + t)
        show mk_w a i t + bV a (s ||| 2 ^ t) < 100000
        unfold mk_w
        omega
      have step : ∀ y v' : Int32, y = bmI (fun r => mk_w a i r + bV a (s ||| 2 ^ r)) (fun r => !s.testBit r) (r + 1) → ∃ μ', ra_lx μ' (3, i + 1, (2 ^ ab_hc a - s) * 20 + (ab_hc a - r)) ∧ I_N_bestOf a Z [.ref 82, .int x] σ0 79 μ' [.ref 82, .int x, .int (nI (2 ^ ab_hc a - 1)), .int (nI i), .int (nI s), .int (nI (r + 1)), .int v'] [] (ra_sw σ 102 (256 * i + s) y) := by
        intro y v' hy
        have hf1 : ra_fr [102] σ (ra_sw σ 102 (256 * i + s) y) := ra_fr.rf.sw (by decide) (by decide)
        refine ⟨(3, i + 1, (2 ^ ab_hc a - s) * 20 + (ab_hc a - (r + 1))), lx3 (by omega), rfl, x, i, s, r + 1, u, v, _, rfl, hR.fr hf1 (by decide), hP.fr hf1 (by simp [sw_at]) (by decide), hf.tr hf1 (by decide), hi, hs, by omega, rfl, hi2, hs2, hq.sw (by omega), fun j hj hj2 => ?_, fun _ => ?_, rfl⟩
        · rw [sw_at, if_pos rfl, if_neg (by omega)]
          exact hq2 j hj hj2
        · rw [sw_at, if_pos rfl, if_pos rfl, hy]
      have h144 : ∀ y : Int32, (y ≤ bmI (fun r => mk_w a i r + bV a (s ||| 2 ^ r)) (fun r => !s.testBit r) r → bmI (fun r => mk_w a i r + bV a (s ||| 2 ^ r)) (fun r => !s.testBit r) (r + 1) = bmI (fun r => mk_w a i r + bV a (s ||| 2 ^ r)) (fun r => !s.testBit r) r) → (¬ y ≤ bmI (fun r => mk_w a i r + bV a (s ||| 2 ^ r)) (fun r => !s.testBit r) r → bmI (fun r => mk_w a i r + bV a (s ||| 2 ^ r)) (fun r => !s.testBit r) (r + 1) = y) → b_N_bestOf_144 (sp_N_reads a) sp_N_ones sp_N_isIn (ra_J (I_N_bestOf a Z [.ref 82, .int x] σ0) (3, i + 1, (2 ^ ab_hc a - s) * 20 + (ab_hc a - r))) Z [.ref 82, .int x, .int (nI (2 ^ ab_hc a - 1)), .int (nI i), .int (nI s), .int (nI r), w] [.int y] σ := by
        intro y h1 h2
        simp (disch := omega) only [b_N_bestOf_337, b_N_bestOf_331, b_N_bestOf_322, b_N_bestOf_317, b_N_bestOf_295, b_N_bestOf_289, b_N_bestOf_239, b_N_bestOf_230, b_N_bestOf_227, b_N_bestOf_218, b_N_bestOf_213, b_N_bestOf_207, b_N_bestOf_201, b_N_bestOf_194, b_N_bestOf_181, b_N_bestOf_176, b_N_bestOf_144, b_N_bestOf_111, b_N_bestOf_107, b_N_bestOf_97, b_N_bestOf_88, b_N_bestOf_79, b_N_bestOf_62, b_N_bestOf_56, b_N_bestOf_53, b_N_bestOf_49, b_N_bestOf_42, b_N_bestOf_20, b_N_bestOf_15, b_N_bestOf_0, e_al0, e_il1, e_il4, e_il5, e_il3, e_il6, e_il2, e_is3i, e_is3r, e_is3n, e_is5i, e_is5r, e_is5n, e_is4i, e_is4r, e_is4n, e_is6i, e_is6r, e_is6n, e_is2i, e_is2r, e_is2n, e_inc4i, e_inc4r, e_inc4n, e_inc5i, e_inc5r, e_inc5n, e_inc3i, e_inc3r, e_inc3n, e_c, e_i2, e_b1, e_b2, e_gi, e_gr, e_ald, e_ast, e_ir, e_cs2, e_cs1, e_cv1, e_hd, e_c10, e_c1i, e_c1r, e_sh0, e_sh1, e_sh2, e_sh3, e_sh4, e_tls, e_tln, e_tl0, e_tl1, cl_82, cl_100, ln_100, cl_101, ln_101, cl_102, ln_102, tg_82_19, tg_82_20, tg_82_21, q_N_reads, q_N_ones, q_N_isIn, Nat.reduceAdd, true_and, and_true, true_implies, not_true_eq_false, false_implies, not_false_eq_true, imp_self, forall_const, List.append_nil, ra_I, ra_J, ra_pad, true_or, or_true, Nat.reduceEqDiff, ra_bz, eq_self, if_true, if_false, false_and, and_false, Nat.zero_le, List.cons_append, List.nil_append, Nat.reduceLT, Nat.reduceLeDiff, Nat.reduceMul, Nat.reduceSub, n_0, n_1, n_2, n_3, n_4, n_5, n_6, n_7, n_8, n_9, n_10, n_12, n_40, n_48, n_57, n_59, n_72, n_99, n_102, n_103, n_107, n_108, n_192, n_255, n_256, n_999, n_1000, n_104, nI_add, pk_mul, n_cl, n_inT, n_le, n_lt, n_eq, n_m1, n_m1', n_lem1, n_m1le, n_ltm1, n_m1lt, n_lepred, n_shl, fa_or, hq3 hpop]
        exact ⟨fun z => step _ _ (h1 z).symm, fun z => step _ _ (h2 z).symm⟩
      simp (disch := omega) only [b_N_bestOf_337, b_N_bestOf_331, b_N_bestOf_322, b_N_bestOf_317, b_N_bestOf_295, b_N_bestOf_289, b_N_bestOf_239, b_N_bestOf_230, b_N_bestOf_227, b_N_bestOf_218, b_N_bestOf_213, b_N_bestOf_207, b_N_bestOf_201, b_N_bestOf_194, b_N_bestOf_181, b_N_bestOf_176, b_N_bestOf_111, b_N_bestOf_107, b_N_bestOf_97, b_N_bestOf_88, b_N_bestOf_79, b_N_bestOf_62, b_N_bestOf_56, b_N_bestOf_53, b_N_bestOf_49, b_N_bestOf_42, b_N_bestOf_20, b_N_bestOf_15, b_N_bestOf_0, e_al0, e_il1, e_il4, e_il5, e_il3, e_il6, e_il2, e_is3i, e_is3r, e_is3n, e_is5i, e_is5r, e_is5n, e_is4i, e_is4r, e_is4n, e_is6i, e_is6r, e_is6n, e_is2i, e_is2r, e_is2n, e_inc4i, e_inc4r, e_inc4n, e_inc5i, e_inc5r, e_inc5n, e_inc3i, e_inc3r, e_inc3n, e_c, e_i2, e_b1, e_b2, e_gi, e_gr, e_ald, e_ast, e_ir, e_cs2, e_cs1, e_cv1, e_hd, e_c10, e_c1i, e_c1r, e_sh0, e_sh1, e_sh2, e_sh3, e_sh4, e_tls, e_tln, e_tl0, e_tl1, cl_82, cl_100, ln_100, cl_101, ln_101, cl_102, ln_102, tg_82_19, tg_82_20, tg_82_21, q_N_reads, q_N_ones, q_N_isIn, Nat.reduceAdd, true_and, and_true, true_implies, not_true_eq_false, false_implies, not_false_eq_true, imp_self, forall_const, List.append_nil, ra_I, ra_J, ra_pad, true_or, or_true, Nat.reduceEqDiff, ra_bz, eq_self, if_true, if_false, false_and, and_false, Nat.zero_le, List.cons_append, List.nil_append, Nat.reduceLT, Nat.reduceLeDiff, Nat.reduceMul, Nat.reduceSub, n_0, n_1, n_2, n_3, n_4, n_5, n_6, n_7, n_8, n_9, n_10, n_12, n_40, n_48, n_57, n_59, n_72, n_99, n_102, n_103, n_107, n_108, n_192, n_255, n_256, n_999, n_1000, n_104, nI_add, pk_mul, n_cl, n_inT, n_le, n_lt, n_eq, n_m1, n_m1', n_lem1, n_m1le, n_ltm1, n_m1lt, n_lepred, n_shl, fa_or, hP.1.1]
      refine ⟨fun z => by omega, fun _ => ⟨fun _ => ⟨fun z => ?_, fun z => ?_⟩, fun z => absurd hpop z⟩⟩
      · refine h144 _ (fun y => ?_) (fun y => ?_)
        · exact bmI_no (by simp [z])
        · rw [bmI_no (by simp [z])]
          exfalso
          apply y
          unfold bmI
          split
          · exact (show (-nI 1 : Int32) ≤ -1 by decide)
          · have := bmx_le (p := fun r => !s.testBit r) (fun t => Nat.le_of_lt (hg t)) r
            have h3 : (-nI 1 ≤ nI (bmx (fun r => mk_w a i r + bV a (s ||| 2 ^ r)) (fun r => !s.testBit r) r)) = True := n_m1le (by omega)
            rw [h3]
            trivial
      · have hz : s.testBit r = false := ts_nt' z
        have hlt2 : s ||| 2 ^ r < 2 ^ ab_hc a := Nat.or_lt_two_pow hs2 (Nat.pow_lt_pow_right (by decide) hlt)
        have hm := hq (i + 1) (s ||| 2 ^ r) (Nat.le_refl _) (by omega) hlt2 (by rw [n_pop_set (by omega) hz, hpop])
        have hw := hR.2.2.2.2.2.1 (8 * i + r) (by omega)
        rw [n_cl (by omega), hm, hw, nI_add]
        have hy := bmI_yes (g := fun r => mk_w a i r + bV a (s ||| 2 ^ r)) (p := fun r => !s.testBit r) (n := r) hg (by simp [hz])
        exact ⟨vi (by omega) (by decide), h144 _ hy.1 hy.2⟩
    · simp (disch := omega) only [b_N_bestOf_337, b_N_bestOf_331, b_N_bestOf_322, b_N_bestOf_317, b_N_bestOf_295, b_N_bestOf_289, b_N_bestOf_239, b_N_bestOf_230, b_N_bestOf_227, b_N_bestOf_218, b_N_bestOf_213, b_N_bestOf_207, b_N_bestOf_201, b_N_bestOf_194, b_N_bestOf_181, b_N_bestOf_176, b_N_bestOf_144, b_N_bestOf_111, b_N_bestOf_107, b_N_bestOf_88, b_N_bestOf_79, b_N_bestOf_62, b_N_bestOf_56, b_N_bestOf_53, b_N_bestOf_49, b_N_bestOf_42, b_N_bestOf_20, b_N_bestOf_15, b_N_bestOf_0, e_al0, e_il1, e_il4, e_il5, e_il3, e_il6, e_il2, e_is3i, e_is3r, e_is3n, e_is5i, e_is5r, e_is5n, e_is4i, e_is4r, e_is4n, e_is6i, e_is6r, e_is6n, e_is2i, e_is2r, e_is2n, e_inc4i, e_inc4r, e_inc4n, e_inc5i, e_inc5r, e_inc5n, e_inc3i, e_inc3r, e_inc3n, e_c, e_i2, e_b1, e_b2, e_gi, e_gr, e_ald, e_ast, e_ir, e_cs2, e_cs1, e_cv1, e_hd, e_c10, e_c1i, e_c1r, e_sh0, e_sh1, e_sh2, e_sh3, e_sh4, e_tls, e_tln, e_tl0, e_tl1, cl_82, cl_100, ln_100, cl_101, ln_101, cl_102, ln_102, tg_82_19, tg_82_20, tg_82_21, q_N_reads, q_N_ones, q_N_isIn, Nat.reduceAdd, true_and, and_true, true_implies, not_true_eq_false, false_implies, not_false_eq_true, imp_self, forall_const, List.append_nil, ra_I, ra_J, ra_pad, true_or, or_true, Nat.reduceEqDiff, ra_bz, eq_self, if_true, if_false, false_and, and_false, Nat.zero_le, List.cons_append, List.nil_append, Nat.reduceLT, Nat.reduceLeDiff, Nat.reduceMul, Nat.reduceSub, n_0, n_1, n_2, n_3, n_4, n_5, n_6, n_7, n_8, n_9, n_10, n_12, n_40, n_48, n_57, n_59, n_72, n_99, n_102, n_103, n_107, n_108, n_192, n_255, n_256, n_999, n_1000, n_104, nI_add, pk_mul, n_cl, n_inT, n_le, n_lt, n_eq, n_m1, n_m1', n_lem1, n_m1le, n_ltm1, n_m1lt, n_lepred, n_shl, fa_or, hP.1.1]
      refine ⟨fun z => next (by omega) _, fun z => ⟨fun y => by omega, fun y => next (Or.inr y) _⟩⟩
  · -- 218
    intro as σ0 Z h0 μ L S σ hI
    obtain ⟨rfl, x, i, s, r, u, v, w, rfl, hR, hP, hf, hi, hs, hr, rfl, hq, hq2, rfl⟩ := hI
    obtain ⟨_, e, hR0, hx, hZ⟩ := x_f1 h0
    cases e
    have h9 := hZ σ hP hf
    unfold an_be at h9
    simp (disch := omega) only [b_N_bestOf_337, b_N_bestOf_331, b_N_bestOf_322, b_N_bestOf_317, b_N_bestOf_295, b_N_bestOf_289, b_N_bestOf_239, b_N_bestOf_230, b_N_bestOf_227, b_N_bestOf_218, b_N_bestOf_213, b_N_bestOf_207, b_N_bestOf_201, b_N_bestOf_194, b_N_bestOf_181, b_N_bestOf_176, b_N_bestOf_144, b_N_bestOf_111, b_N_bestOf_107, b_N_bestOf_97, b_N_bestOf_88, b_N_bestOf_79, b_N_bestOf_62, b_N_bestOf_56, b_N_bestOf_53, b_N_bestOf_49, b_N_bestOf_42, b_N_bestOf_20, b_N_bestOf_15, b_N_bestOf_0, e_al0, e_il1, e_il4, e_il5, e_il3, e_il6, e_il2, e_is3i, e_is3r, e_is3n, e_is5i, e_is5r, e_is5n, e_is4i, e_is4r, e_is4n, e_is6i, e_is6r, e_is6n, e_is2i, e_is2r, e_is2n, e_inc4i, e_inc4r, e_inc4n, e_inc5i, e_inc5r, e_inc5n, e_inc3i, e_inc3r, e_inc3n, e_c, e_i2, e_b1, e_b2, e_gi, e_gr, e_ald, e_ast, e_ir, e_cs2, e_cs1, e_cv1, e_hd, e_c10, e_c1i, e_c1r, e_sh0, e_sh1, e_sh2, e_sh3, e_sh4, e_tls, e_tln, e_tl0, e_tl1, cl_82, cl_100, ln_100, cl_101, ln_101, cl_102, ln_102, tg_82_19, tg_82_20, tg_82_21, q_N_reads, q_N_ones, q_N_isIn, Nat.reduceAdd, true_and, and_true, true_implies, not_true_eq_false, false_implies, not_false_eq_true, imp_self, forall_const, List.append_nil, ra_I, ra_J, ra_pad, true_or, or_true, Nat.reduceEqDiff, ra_bz, eq_self, if_true, if_false, false_and, and_false, Nat.zero_le, List.cons_append, List.nil_append, Nat.reduceLT, Nat.reduceLeDiff, Nat.reduceMul, Nat.reduceSub, n_0, n_1, n_2, n_3, n_4, n_5, n_6, n_7, n_8, n_9, n_10, n_12, n_40, n_48, n_57, n_59, n_72, n_99, n_102, n_103, n_107, n_108, n_192, n_255, n_256, n_999, n_1000, n_104, nI_add, pk_mul, n_cl, n_inT, n_le, n_lt, n_eq, n_m1, n_m1', n_lem1, n_m1le, n_ltm1, n_m1lt, n_lepred, n_shl, fa_or, hP.1.1]
    refine ⟨fun z => ⟨fun z2 => ?_, fun z2 => ?_⟩, fun z => ⟨(1, ab_hc a - i, ab_hc a - 0), lx3 (by omega), rfl, x, i, s, 0, u, v, w, rfl, hR, hP, hf, hi, hs, by omega, rfl, by omega, by omega, hq, hq2, rfl⟩⟩
    · have hm := hq 0 0 (Nat.le_refl _) (by omega) (by omega) (fb_ct_zero.mpr (fun k _ => Nat.zero_testBit k))
      rw [if_pos (show x = -1 from z2)] at h9
      rw [show σ 102 0 = nI (bV a 0) from hm]
      exact h9
    · rw [if_neg (show ¬ x = -1 from z2)] at h9
      have hx2 : an_hs a x := by
        rcases hx with y | y
        · exact y
        · exact absurd y z2
      obtain ⟨m, hm, rfl⟩ := an_hs_of hx2
      rw [n_cl (by omega)] at h9 ⊢
      rw [hq2 m (by omega)]
      exact ⟨vi (by omega) (by decide), h9⟩
  · -- 230
    intro as σ0 Z h0 μ L S σ hI
    obtain ⟨rfl, x, i, s, r, u, v, w, rfl, hR, hP, hf, hi, hs, hr, rfl, hi2, hrb, hq, hq2, rfl⟩ := hI
    obtain ⟨hpop, hslt⟩ := bS_pop (a := a) i (by omega)
    obtain ⟨g1, g2, g3⟩ := bR_of hpop hi2
    have hrlt : r < ab_hc a := by omega
    have hw := hR.2.2.2.2.2.1 (8 * i + r) (by omega)
    have step : r ≠ bR a i → ∃ μ', ra_lx μ' (1, ab_hc a - i, ab_hc a - r) ∧ I_N_bestOf a Z [.ref 82, .int x] σ0 230 μ' [.ref 82, .int x, .int (nI (2 ^ ab_hc a - 1)), .int (nI (bS a i)), .int (nI i), .int (nI (r + 1)), w] [] σ := by
      intro h1
      exact ⟨(1, ab_hc a - i, ab_hc a - (r + 1)), lx3 (by omega), rfl, x, i, s, r + 1, u, v, w, rfl, hR, hP, hf, hi, hs, by omega, rfl, hi2, by omega, hq, hq2, rfl⟩
    simp (disch := omega) only [b_N_bestOf_337, b_N_bestOf_331, b_N_bestOf_322, b_N_bestOf_317, b_N_bestOf_295, b_N_bestOf_289, b_N_bestOf_239, b_N_bestOf_230, b_N_bestOf_227, b_N_bestOf_218, b_N_bestOf_213, b_N_bestOf_207, b_N_bestOf_201, b_N_bestOf_194, b_N_bestOf_181, b_N_bestOf_176, b_N_bestOf_144, b_N_bestOf_111, b_N_bestOf_107, b_N_bestOf_97, b_N_bestOf_88, b_N_bestOf_79, b_N_bestOf_62, b_N_bestOf_56, b_N_bestOf_53, b_N_bestOf_49, b_N_bestOf_42, b_N_bestOf_20, b_N_bestOf_15, b_N_bestOf_0, e_al0, e_il1, e_il4, e_il5, e_il3, e_il6, e_il2, e_is3i, e_is3r, e_is3n, e_is5i, e_is5r, e_is5n, e_is4i, e_is4r, e_is4n, e_is6i, e_is6r, e_is6n, e_is2i, e_is2r, e_is2n, e_inc4i, e_inc4r, e_inc4n, e_inc5i, e_inc5r, e_inc5n, e_inc3i, e_inc3r, e_inc3n, e_c, e_i2, e_b1, e_b2, e_gi, e_gr, e_ald, e_ast, e_ir, e_cs2, e_cs1, e_cv1, e_hd, e_c10, e_c1i, e_c1r, e_sh0, e_sh1, e_sh2, e_sh3, e_sh4, e_tls, e_tln, e_tl0, e_tl1, cl_82, cl_100, ln_100, cl_101, ln_101, cl_102, ln_102, tg_82_19, tg_82_20, tg_82_21, q_N_reads, q_N_ones, q_N_isIn, Nat.reduceAdd, true_and, and_true, true_implies, not_true_eq_false, false_implies, not_false_eq_true, imp_self, forall_const, List.append_nil, ra_I, ra_J, ra_pad, true_or, or_true, Nat.reduceEqDiff, ra_bz, eq_self, if_true, if_false, false_and, and_false, Nat.zero_le, List.cons_append, List.nil_append, Nat.reduceLT, Nat.reduceLeDiff, Nat.reduceMul, Nat.reduceSub, n_0, n_1, n_2, n_3, n_4, n_5, n_6, n_7, n_8, n_9, n_10, n_12, n_40, n_48, n_57, n_59, n_72, n_99, n_102, n_103, n_107, n_108, n_192, n_255, n_256, n_999, n_1000, n_104, nI_add, pk_mul, n_cl, n_inT, n_le, n_lt, n_eq, n_m1, n_m1', n_lem1, n_m1le, n_ltm1, n_m1lt, n_lepred, n_shl, fa_or]
    refine ⟨fun z => step (fun y => by rw [y, g2] at z; exact absurd z (by decide)), fun z => ?_⟩
    have hz : (bS a i).testBit r = false := ts_nt' z
    have hlt2 : bS a i ||| 2 ^ r < 2 ^ ab_hc a := Nat.or_lt_two_pow hslt (Nat.pow_lt_pow_right (by decide) hrlt)
    have hm := hq (i + 1) (bS a i ||| 2 ^ r) (by omega) (by omega) hlt2 (by rw [n_pop_set (by omega) hz, hpop])
    have hm2 := hq i (bS a i) (by omega) (by omega) hslt hpop
    have b1 := bV_le hW (bS a i ||| 2 ^ r)
    have b2 := bV_le hW (bS a i)
    have b3 := hW.2.2.2.2.2.2.2.2.2.1 (8 * i + r)
    rw [n_cl (show 256 * (i + 1) + (bS a i ||| 2 ^ r) < 2147483648 by omega), hm, hm2, hw, nI_add, n_eq (by omega) (by omega)]
    refine ⟨vi (by omega) (by decide), fun y => ?_, fun y => step (fun y2 => by rw [y2] at y; exact y g3)⟩
    have e : r = bR a i := by
      rcases (show r < bR a i ∨ r = bR a i by omega) with y2 | y2
      · have := fa_first_no (fun r => !(bS a i).testBit r && decide (mk_w a i r + bV a (bS a i ||| 2 ^ r) = bV a (bS a i))) (ab_hc a) r (by unfold bR at y2; omega)
        rw [hz, decide_eq_true (show mk_w a i r + bV a (bS a i ||| 2 ^ r) = bV a (bS a i) from y)] at this
        exact absurd this (by decide)
      · exact y2
    have hf1 : ra_fr [101] σ (ra_sw σ 101 i (nI r)) := ra_fr.rf.sw (by decide) (by decide)
    refine ⟨(1, ab_hc a - (i + 1), 100), lx2 (by omega), rfl, x, i + 1, s, r, u, .int (nI r), w, rfl, hR.fr hf1 (by decide), hP.fr hf1 (by simp [sw_at]) (by decide), hf.tr hf1 (by decide), by omega, hs, hr, rfl, fun h t h1 h2 h3 h4 => by rw [sw_at, if_neg (by decide)]; exact hq h t h1 h2 h3 h4, fun j hj => ?_, ?_⟩
    · rw [sw_at, if_pos rfl]
      split
      · next e2 => rw [e2, e]
      · exact hq2 j (by omega)
    · rw [e]
      rfl
noncomputable def an_best (a : Ab) (x : Int32) : Int32 := by
  classical
  exact if an_hs a x ∨ x = -1 then an_be a x else -2
theorem an_best_yes {a : Ab} {x : Int32} (h : an_hs a x ∨ x = -1) : an_best a x = an_be a x := by
  unfold an_best
  exact if_pos h
theorem an_best_no {a : Ab} {x : Int32} (h : ¬ (an_hs a x ∨ x = -1)) : an_best a x = -2 := by
  unfold an_best
  exact if_neg h
def sp_N_best (a : Ab) : ra_Sp := ra_f1 82 (fun x σ Z => rn_R a σ ∧ ∀ σ', ra_fr rn_scr σ σ' → Z (some (.int (an_best a x))) σ')
theorem q_N_best {a : Ab} {oo : Nat} {x : Int32} {σ : ra_St} {Z : ra_R} : sp_N_best a [.ref oo, .int x] σ Z = (oo = 82 ∧ (rn_R a σ ∧ ∀ σ', ra_fr rn_scr σ σ' → Z (some (.int (an_best a x))) σ')) := rfl
theorem k_N_best {l : Launch} {X : ra_X} {a : Ab} (hW : ab_W a) : ra_MOK l X mi_N_best (sp_N_best a) := by
  refine g_N_best (k_N_isHouse hW) (k_N_bestOf hW) (sp_N_best a) ?_
  intro as σ Z _ _ h
  obtain ⟨x, rfl, hR, hZ⟩ := x_f1 h
  simp (disch := omega) only [b_N_best_23, b_N_best_21, b_N_best_13, b_N_best_5, b_N_best_0, e_al0, e_il1, e_c, e_b1, e_b2, e_ir, e_cv2, e_hd, e_c10, e_c1i, e_c1r, e_sh0, e_sh1, e_sh2, e_sh3, e_sh4, e_tls, e_tln, e_tl0, e_tl1, cl_82, q_N_isHouse, q_N_bestOf, Nat.reduceAdd, true_and, and_true, true_implies, not_true_eq_false, false_implies, not_false_eq_true, imp_self, forall_const, List.append_nil, ra_I, ra_J, ra_pad, true_or, or_true, Nat.reduceEqDiff, ra_bz, eq_self, if_true, if_false, false_and, and_false, Nat.zero_le, List.cons_append, List.nil_append, Nat.reduceLT, Nat.reduceLeDiff, Nat.reduceMul, Nat.reduceSub, n_0, n_1, n_2, n_3, n_4, n_5, n_6, n_7, n_8, n_9, n_10, n_12, n_40, n_48, n_57, n_59, n_72, n_99, n_102, n_103, n_107, n_108, n_192, n_255, n_256, n_999, n_1000, n_104, nI_add, pk_mul, n_cl, n_in, n_le, n_lt, n_eq, n_m1, n_m1', n_lem1, n_m1le, n_ltm1, n_m1lt, n_lepred, n_shl, fa_or]
  have yes : ∀ σ0, ra_fr rn_scr σ σ0 → (an_hs a x ∨ x = -1) → ∀ σ', rn_P a σ' → ra_fr rn_scr σ0 σ' → Z (some (.int (an_be a x))) σ' := by
    intro σ0 g0 q σ' g1 g2
    have h9 := hZ σ' (g0.tr g2 (by decide))
    rw [an_best_yes q] at h9
    exact h9
  refine ⟨fun q => ⟨hR, Or.inr q, yes σ ra_fr.rf (Or.inr q)⟩, fun q => ⟨hR.1, fun σ1 g1 g2 => ⟨fun q2 => ⟨hR.fr g2 (by decide), Or.inl q2, yes σ1 (g2.mono (by decide)) (Or.inl q2)⟩, fun q2 => ?_⟩⟩⟩
  have h9 := hZ σ1 (g2.mono (by decide))
  rw [an_best_no (fun z => by
    rcases z with z | z
    · exact q2 z
    · exact q z)] at h9
  exact h9
