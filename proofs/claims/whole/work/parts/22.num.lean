theorem n_le {a b : Nat} (ha : a < 2147483648) (hb : b < 2147483648) : (nI a ≤ nI b) = (a ≤ b) := propext (nI_leI ha hb)
theorem n_lt {a b : Nat} (ha : a < 2147483648) (hb : b < 2147483648) : (nI a < nI b) = (a < b) := propext (nI_ltI ha hb)
theorem n_eq {a b : Nat} (ha : a < 2147483648) (hb : b < 2147483648) : (nI a = nI b) = (a = b) := propext (nI_eq ha hb)
theorem n_cl {a : Nat} (ha : a < 2147483648) : (nI a).toNatClampNeg = a := nI_clamp ha
theorem n_in {a n : Nat} (ha : a < 2147483648) (hn : n < 2147483648) : vp_in (nI a) n = (a < n) := by
  apply propext
  rw [vp_in_iff, nI_toInt ha]
  omega
theorem n_inT {a n : Nat} (h : a < n) (hn : n < 2147483648) : vp_in (nI a) n = True := propext ⟨fun _ => trivial, fun _ => vp_in_nI h hn⟩
theorem vi {a n : Nat} (h : a < n) (hn : n < 2147483648) : vp_in (nI a) n := vp_in_nI h hn
theorem lx1 {a b x y z w : Nat} (h : a < b) : ra_lx (a, x, y) (b, z, w) := Or.inl h
theorem lx2 {a x y z w : Nat} (h : x < z) : ra_lx (a, x, y) (a, z, w) := Or.inr ⟨rfl, Or.inl h⟩
theorem lx3 {a x y w : Nat} (h : y < w) : ra_lx (a, x, y) (a, x, w) := Or.inr ⟨rfl, Or.inr ⟨rfl, h⟩⟩
theorem n_sub {a b : Nat} (h : b ≤ a) : nI a - nI b = nI (a - b) := pk_sub h
theorem n_0 : (0 : Int32) = nI 0 := rfl
theorem n_1 : (1 : Int32) = nI 1 := rfl
theorem n_2 : (2 : Int32) = nI 2 := rfl
theorem n_3 : (3 : Int32) = nI 3 := rfl
theorem n_4 : (4 : Int32) = nI 4 := rfl
theorem n_5 : (5 : Int32) = nI 5 := rfl
theorem n_6 : (6 : Int32) = nI 6 := rfl
theorem n_7 : (7 : Int32) = nI 7 := rfl
theorem n_8 : (8 : Int32) = nI 8 := rfl
theorem n_9 : (9 : Int32) = nI 9 := rfl
theorem n_10 : (10 : Int32) = nI 10 := rfl
theorem n_12 : (12 : Int32) = nI 12 := rfl
theorem n_40 : (40 : Int32) = nI 40 := rfl
theorem n_48 : (48 : Int32) = nI 48 := rfl
theorem n_57 : (57 : Int32) = nI 57 := rfl
theorem n_59 : (59 : Int32) = nI 59 := rfl
theorem n_72 : (72 : Int32) = nI 72 := rfl
theorem n_99 : (99 : Int32) = nI 99 := rfl
theorem n_102 : (102 : Int32) = nI 102 := rfl
theorem n_103 : (103 : Int32) = nI 103 := rfl
theorem n_107 : (107 : Int32) = nI 107 := rfl
theorem n_108 : (108 : Int32) = nI 108 := rfl
theorem n_192 : (192 : Int32) = nI 192 := rfl
theorem n_255 : (255 : Int32) = nI 255 := rfl
theorem n_256 : (256 : Int32) = nI 256 := rfl
theorem n_999 : (999 : Int32) = nI 999 := rfl
theorem n_1000 : (1000 : Int32) = nI 1000 := rfl
theorem n_104 : (104 : Int32) = nI 104 := rfl
theorem n_m1 {n : Nat} (h : n < 2147483648) : (nI n = -nI 1) = False := by
  show (nI n = -1) = False
  apply propext
  rw [fa_eq, nI_toInt h]
  constructor
  · intro q
    have : (-1 : Int32).toInt = -1 := by decide
    omega
  · exact False.elim
theorem n_m1' {n : Nat} (h : n < 2147483648) : (-nI 1 = nI n) = False := (propext eq_comm : (-nI 1 = nI n) = (nI n = -nI 1)).trans (n_m1 h)
theorem n_shl {k : Nat} (h : k < 31) : nI 1 <<< (nI k &&& 31) = nI (2 ^ k) := by
  have : ∀ k, k < 31 → (1 : Int32) <<< (nI k &&& 31) = nI (2 ^ k) := by decide +kernel
  exact this k h
theorem n_bit {b k : Nat} (hb : b < 2147483648) (hk : k < 31) : (nI b >>> (nI k &&& 31) &&& 1 = 1) = (b.testBit k = true) := by
  have e1 : nI b >>> (nI k &&& 31) = nI (b / 2 ^ k) := pk_shrN hb _ k (s_l k (by omega))
  have e2 : (1 : Int32) = nI (2 ^ 1 - 1) := rfl
  have e3 : nI (b / 2 ^ k) &&& 1 = nI (b / 2 ^ k % 2) := by rw [e2, fa_mask]
  have h2 : b / 2 ^ k % 2 < 2 := Nat.mod_lt _ (by decide)
  rw [e1, e3, n_1, n_eq (by omega) (by omega), Nat.testBit_eq_decide_div_mod_eq]
  simp
theorem n_bit01 {b k : Nat} (hb : b < 2147483648) (hk : k < 31) : nI b >>> (nI k &&& 31) &&& 1 = nI (if b.testBit k = true then 1 else 0) := by
  have e1 : nI b >>> (nI k &&& 31) = nI (b / 2 ^ k) := pk_shrN hb _ k (s_l k (by omega))
  have e2 : (1 : Int32) = nI (2 ^ 1 - 1) := rfl
  rw [e1, e2, fa_mask, Nat.testBit_eq_decide_div_mod_eq]
  have h2 : b / 2 ^ k % 2 < 2 := Nat.mod_lt _ (by decide)
  congr 1
  split
  · next h => simpa using h
  · next h =>
    have h3 : ¬ b / 2 ^ k % 2 = 1 := by simpa using h
    show b / 2 ^ k % 2 = 0
    omega
theorem n_cm1 : (-1 : Int32).toNatClampNeg = 0 := by decide
theorem n_lem1 {n : Nat} (h : n < 2147483648) : (nI n ≤ -nI 1) = False := by
  show (nI n ≤ -1) = False
  apply propext
  rw [fa_le, nI_toInt h]
  have : (-1 : Int32).toInt = -1 := by decide
  constructor
  · intro q; omega
  · exact False.elim
theorem n_m1le {n : Nat} (h : n < 2147483648) : (-nI 1 ≤ nI n) = True := by
  show ((-1 : Int32) ≤ nI n) = True
  apply propext
  rw [fa_le, nI_toInt h]
  have : (-1 : Int32).toInt = -1 := by decide
  constructor
  · intro _; trivial
  · intro _; omega
theorem n_ltm1 {n : Nat} (h : n < 2147483648) : (nI n < -nI 1) = False := by
  show (nI n < -1) = False
  apply propext
  rw [fa_lt, nI_toInt h]
  have : (-1 : Int32).toInt = -1 := by decide
  constructor
  · intro q; omega
  · exact False.elim
theorem n_m1lt {n : Nat} (h : n < 2147483648) : (-nI 1 < nI n) = True := by
  show ((-1 : Int32) < nI n) = True
  apply propext
  rw [fa_lt, nI_toInt h]
  have : (-1 : Int32).toInt = -1 := by decide
  constructor
  · intro _; trivial
  · intro _; omega
theorem n_lepred {x h : Nat} (hx : x < 1073741824) (hh : h < 1073741824) : (nI x ≤ nI h - nI 1) = (x < h) := by
  apply propext
  rw [fa_le, nI_toInt (by omega), pk_sub_toInt (by omega) (by omega)]
  omega
theorem n_m1lepred {h : Nat} (hh : h < 1073741824) : (-nI 1 ≤ nI h - nI 1) = True := by
  apply propext
  rw [fa_le, pk_sub_toInt (by omega) (by omega)]
  have : (-nI 1).toInt = -1 := by decide
  constructor
  · intro _; trivial
  · intro _; omega
theorem n_tb_or {b k i : Nat} : (b ||| 2 ^ k).testBit i = (b.testBit i || decide (i = k)) := fb_bit_set b k i
theorem n_or_lt {a b m : Nat} (ha : a < 2 ^ m) (hb : b < 2 ^ m) : a ||| b < 2 ^ m := Nat.or_lt_two_pow ha hb
theorem n_x (x : Int32) : (∃ n, n < 2147483648 ∧ x = nI n) ∨ x < 0 := by
  by_cases h : x < 0
  · exact Or.inr h
  · obtain ⟨j, h1, h2⟩ := nI_of h
    exact Or.inl ⟨j, h1, h2⟩
theorem n_neg {x : Int32} {n : Nat} (hx : x < 0) (hn : n < 2147483648) : ¬ nI n ≤ x ∧ x < nI n ∧ ¬ x = nI n := by
  have h0 := nI_toInt hn
  rw [fa_lt] at hx
  have h1 : (0 : Int32).toInt = 0 := by decide
  rw [fa_le, fa_lt, fa_eq]
  omega
/-- a truth value as an answer -/
def ra_bz (c : Prop) (Z : ra_R) (σ : ra_St) : Prop := (c → Z (some (.int 1)) σ) ∧ (¬ c → Z (some (.int 0)) σ)
def sp_N_in  : ra_Sp := ra_s3 (fun v lo hi σ Z => ra_bz (lo ≤ v ∧ v ≤ hi) Z σ)
theorem q_N_in  {v lo hi : Int32} {σ : ra_St} {Z : ra_R} : sp_N_in  [.int v, .int lo, .int hi] σ Z = (ra_bz (lo ≤ v ∧ v ≤ hi) Z σ) := rfl
theorem k_N_in {l : Launch} {X : ra_X} : ra_MOK l X mi_N_in sp_N_in := by
  refine g_N_in sp_N_in ?_
  intro as σ Z _ _ h
  obtain ⟨v, lo, hi, rfl, h⟩ := x_s3 h
  simp only [b_N_in_15, b_N_in_14, b_N_in_10, b_N_in_5, b_N_in_0, e_il0, e_il2, e_il1, e_c, e_b2, e_zr, Nat.reduceAdd, true_and, and_true, true_implies, not_true_eq_false, false_implies, not_false_eq_true, imp_self, forall_const, List.append_nil, ra_I, ra_J, ra_pad, true_or, or_true, Nat.reduceEqDiff, ra_bz, eq_self, if_true, if_false, false_and, and_false, Nat.zero_le, List.cons_append, List.nil_append, Nat.reduceLT, Nat.reduceLeDiff, Nat.reduceMul, Nat.reduceSub]
  refine ⟨fun q => h.2 (fun w => ?_), fun q => ⟨fun q2 => h.2 (fun w => ?_), fun q2 => h.1 ⟨fa_of_nlt q, fa_of_nlt q2⟩⟩⟩
  · exact (fa_of_lt q).2.1 w.1
  · exact (fa_of_lt q2).2.1 w.2
def sp_R_isOutside  : ra_Sp := ra_s3 (fun v lo hi σ Z => ra_bz (¬ (lo ≤ v ∧ v ≤ hi)) Z σ)
theorem q_R_isOutside  {v lo hi : Int32} {σ : ra_St} {Z : ra_R} : sp_R_isOutside  [.int v, .int lo, .int hi] σ Z = (ra_bz (¬ (lo ≤ v ∧ v ≤ hi)) Z σ) := rfl
theorem k_R_isOutside {l : Launch} {X : ra_X} : ra_MOK l X mi_R_isOutside sp_R_isOutside := by
  refine g_R_isOutside sp_R_isOutside ?_
  intro as σ Z _ _ h
  obtain ⟨v, lo, hi, rfl, h⟩ := x_s3 h
  simp only [b_R_isOutside_15, b_R_isOutside_14, b_R_isOutside_10, b_R_isOutside_5, b_R_isOutside_0, e_il0, e_il2, e_il1, e_c, e_b2, e_zr, Nat.reduceAdd, true_and, and_true, true_implies, not_true_eq_false, false_implies, not_false_eq_true, imp_self, forall_const, List.append_nil, ra_I, ra_J, ra_pad, true_or, or_true, Nat.reduceEqDiff, ra_bz, eq_self, if_true, if_false, false_and, and_false, Nat.zero_le, List.cons_append, List.nil_append, Nat.reduceLT, Nat.reduceLeDiff, Nat.reduceMul, Nat.reduceSub]
  refine ⟨fun q => h.1 (fun w => ?_), fun q => ⟨fun q2 => h.2 (fun w => w ⟨fa_of_nlt q, q2⟩), fun q2 => h.1 (fun w => ?_)⟩⟩
  · exact (fa_of_lt q).2.1 w.1
  · exact q2 w.2
def sp_N_isIn  : ra_Sp := ra_s2 (fun b k σ Z => 0 ≤ b ∧ vp_in k 31 ∧ ra_bz (b.toNatClampNeg.testBit k.toNatClampNeg = true) Z σ)
theorem q_N_isIn  {b k : Int32} {σ : ra_St} {Z : ra_R} : sp_N_isIn  [.int b, .int k] σ Z = (0 ≤ b ∧ vp_in k 31 ∧ ra_bz (b.toNatClampNeg.testBit k.toNatClampNeg = true) Z σ) := rfl
theorem k_N_isIn {l : Launch} {X : ra_X} : ra_MOK l X mi_N_isIn sp_N_isIn := by
  refine g_N_isIn sp_N_isIn ?_
  intro as σ Z _ _ h
  obtain ⟨_, _, rfl, hb0, hk0, h⟩ := x_s2 h
  obtain ⟨b, hb, rfl⟩ := nI_of (fun q => (fa_of_lt q).2.1 hb0)
  obtain ⟨k, hk, rfl⟩ := vp_in_of hk0 (by decide)
  rw [n_cl (by omega), n_cl (by omega)] at h
  simp only [b_N_isIn_14, b_N_isIn_13, b_N_isIn_9, b_N_isIn_0, e_il0, e_il1, e_c, e_i2, e_b2, e_zr, Nat.reduceAdd, true_and, and_true, true_implies, not_true_eq_false, false_implies, not_false_eq_true, imp_self, forall_const, List.append_nil, ra_I, ra_J, ra_pad, true_or, or_true, Nat.reduceEqDiff, ra_bz, eq_self, if_true, if_false, false_and, and_false, Nat.zero_le, List.cons_append, List.nil_append, Nat.reduceLT, Nat.reduceLeDiff, Nat.reduceMul, Nat.reduceSub, n_bit hb hk]
  exact h
def sp_R_has  : ra_Sp := ra_s2 (fun b k σ Z => 0 ≤ b ∧ vp_in k 31 ∧ ra_bz (b.toNatClampNeg.testBit k.toNatClampNeg = true) Z σ)
theorem q_R_has  {b k : Int32} {σ : ra_St} {Z : ra_R} : sp_R_has  [.int b, .int k] σ Z = (0 ≤ b ∧ vp_in k 31 ∧ ra_bz (b.toNatClampNeg.testBit k.toNatClampNeg = true) Z σ) := rfl
theorem k_R_has {l : Launch} {X : ra_X} : ra_MOK l X mi_R_has sp_R_has := by
  refine g_R_has sp_R_has ?_
  intro as σ Z _ _ h
  obtain ⟨_, _, rfl, hb0, hk0, h⟩ := x_s2 h
  obtain ⟨b, hb, rfl⟩ := nI_of (fun q => (fa_of_lt q).2.1 hb0)
  obtain ⟨k, hk, rfl⟩ := vp_in_of hk0 (by decide)
  rw [n_cl (by omega), n_cl (by omega)] at h
  simp only [b_R_has_14, b_R_has_13, b_R_has_9, b_R_has_0, e_il0, e_il1, e_c, e_i2, e_b2, e_zr, Nat.reduceAdd, true_and, and_true, true_implies, not_true_eq_false, false_implies, not_false_eq_true, imp_self, forall_const, List.append_nil, ra_I, ra_J, ra_pad, true_or, or_true, Nat.reduceEqDiff, ra_bz, eq_self, if_true, if_false, false_and, and_false, Nat.zero_le, List.cons_append, List.nil_append, Nat.reduceLT, Nat.reduceLeDiff, Nat.reduceMul, Nat.reduceSub, n_bit hb hk]
  exact h
/-- how many of the eight lowest bits -/
def n_pop (b : Nat) : Nat := fb_ct (fun i => b.testBit i) 8
theorem n_pop_le (b : Nat) : n_pop b ≤ 8 := fb_ct_le _ 8
def sp_N_ones  : ra_Sp := ra_s1 (fun b σ Z => vp_in b 256 ∧ Z (some (.int (nI (n_pop b.toNatClampNeg)))) σ)
theorem q_N_ones  {b : Int32} {σ : ra_St} {Z : ra_R} : sp_N_ones  [.int b] σ Z = (vp_in b 256 ∧ Z (some (.int (nI (n_pop b.toNatClampNeg)))) σ) := rfl
def I_N_ones (Z : ra_R) (as : List Value) (σ0 : ra_St) (t : Nat) (μ : ra_M) : ra_K := fun L S σ => σ = σ0 ∧ ∃ (b k : Nat), as = [.int (nI b)] ∧ b < 256 ∧ k ≤ 8 ∧ μ = (8 - k, 0, 0) ∧ L = [.int (nI b), .int (nI (fb_ct (fun i => b.testBit i) k)), .int (nI k)] ∧ S = [] ∧ Z (some (.int (nI (n_pop b)))) σ
theorem k_N_ones {l : Launch} {X : ra_X} : ra_MOK l X mi_N_ones sp_N_ones := by
  refine g_N_ones sp_N_ones I_N_ones ?_ ?_
  · intro as σ Z _ _ h
    obtain ⟨_, rfl, hb0, h⟩ := x_s1 h
    obtain ⟨b, hb, rfl⟩ := vp_in_of hb0 (by decide)
    rw [n_cl (by omega)] at h
    simp only [b_N_ones_24, b_N_ones_10, b_N_ones_4, b_N_ones_0, e_il1, e_il0, e_il2, e_is1i, e_is1r, e_is1n, e_is2i, e_is2r, e_is2n, e_inc2i, e_inc2r, e_inc2n, e_c, e_i2, e_b2, e_ir, Nat.reduceAdd, true_and, and_true, true_implies, not_true_eq_false, false_implies, not_false_eq_true, imp_self, forall_const, List.append_nil, ra_I, ra_J, ra_pad, true_or, or_true, Nat.reduceEqDiff, ra_bz, eq_self, if_true, if_false, false_and, and_false, Nat.zero_le, List.cons_append, List.nil_append, Nat.reduceLT, Nat.reduceLeDiff, Nat.reduceMul, Nat.reduceSub]
    exact ⟨_, rfl, b, 0, rfl, hb, by omega, rfl, rfl, rfl, h⟩
  · intro as σ Z h μ L S σ1 hI
    obtain ⟨rfl, b, k, rfl, hb, hk, rfl, rfl, rfl, hZ⟩ := hI
    simp only [b_N_ones_24, b_N_ones_10, b_N_ones_4, b_N_ones_0, e_il1, e_il0, e_il2, e_is1i, e_is1r, e_is1n, e_is2i, e_is2r, e_is2n, e_inc2i, e_inc2r, e_inc2n, e_c, e_i2, e_b2, e_ir, Nat.reduceAdd, true_and, and_true, true_implies, not_true_eq_false, false_implies, not_false_eq_true, imp_self, forall_const, List.append_nil, ra_I, ra_J, ra_pad, true_or, or_true, Nat.reduceEqDiff, ra_bz, eq_self, if_true, if_false, false_and, and_false, Nat.zero_le, List.cons_append, List.nil_append, Nat.reduceLT, Nat.reduceLeDiff, Nat.reduceMul, Nat.reduceSub]
    refine ⟨fun q => ?_, fun q => ?_⟩
    · rw [n_8, n_le (by omega) (by omega)] at q
      have e : k = 8 := by omega
      subst e
      exact hZ
    · rw [n_8, n_le (by omega) (by omega)] at q
      refine ⟨(8 - (k + 1), 0, 0), Or.inl (by show 8 - (k + 1) < 8 - k; omega), rfl, b, k + 1, rfl, hb, by omega, rfl, ?_, rfl, hZ⟩
      rw [n_bit01 (by omega) (by omega), nI_add, nI_1]
      rfl
def sp_J_bitCount  : ra_Sp := ra_s1 (fun b σ Z => vp_in b 256 ∧ Z (some (.int (nI (n_pop b.toNatClampNeg)))) σ)
theorem q_J_bitCount  {b : Int32} {σ : ra_St} {Z : ra_R} : sp_J_bitCount  [.int b] σ Z = (vp_in b 256 ∧ Z (some (.int (nI (n_pop b.toNatClampNeg)))) σ) := rfl
theorem k_J_bitCount {l : Launch} {X : ra_X} : ra_MOK l X mi_J_bitCount sp_J_bitCount := by
  refine g_J_bitCount sp_J_bitCount ?_
  intro as σ Z c1 c2 h0
  obtain ⟨_, rfl, hb0, h⟩ := x_s1 h0
  obtain ⟨b, hb, rfl⟩ := vp_in_of hb0 (by decide)
  rw [n_cl (by omega)] at h
  simp only [b_J_bitCount_0, e_il0, e_is0, e_c, e_i2, e_ir, Nat.reduceAdd, true_and, and_true, true_implies, not_true_eq_false, false_implies, not_false_eq_true, imp_self, forall_const, List.append_nil, ra_I, ra_J, ra_pad, true_or, or_true, Nat.reduceEqDiff, ra_bz, eq_self, if_true, if_false, false_and, and_false, Nat.zero_le, List.cons_append, List.nil_append, Nat.reduceLT, Nat.reduceLeDiff, Nat.reduceMul, Nat.reduceSub]
  refine Eq.mp (congrArg (fun z => Z (some (.int z)) σ) ?_) h
  clear c1 c2 h h0 hb0
  revert b
  decide +kernel
