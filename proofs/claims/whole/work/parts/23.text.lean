/-! the texts, as numbers: a 0 t how many bytes text t has, a (1 + t) i its byte i; a 3 0 rains, a 4 k their strengths; a 5 0 price, a 5 1 wear; a 6 (8 h + r) wishes; a 7 0 facts, a 8, a 9, a 10 of each house, roof, is -/
abbrev Ab : Type := Nat → Nat → Nat
def ab_temp (b : Nat) : Nat := if b = 107 then 0 else if b = 103 then 1 else if b = 102 then 2 else if b = 108 then 3 else 4
def ab_fit (a : Ab) (p : Nat) : Bool := if p % 4 = 2 then decide (ab_temp (a 1 p) < 4) else if p % 4 = 3 then decide (a 1 p = 59) else decide (48 ≤ a 1 p ∧ a 1 p ≤ 57)
def ab_bad (a : Ab) (p : Nat) : Bool := decide (8 ≤ p / 4) || !ab_fit a p
def ab_hj (a : Ab) : Nat := fa_first (ab_bad a) (a 0 0)
def ab_hf (a : Ab) : Int32 := if ab_hj a < a 0 0 then nI (ab_hj a) else if a 0 0 = 0 ∨ a 0 0 % 4 = 3 then -1 else nI (a 0 0)
def ab_hc (a : Ab) : Nat := if ab_hj a = a 0 0 ∧ (a 0 0 = 0 ∨ a 0 0 % 4 = 3) then (a 0 0 + 1) / 4 else 0
def ab_tl (a : Ab) (h : Nat) : Nat := a 1 (4 * h) - 48
def ab_pu (a : Ab) (h : Nat) : Nat := a 1 (4 * h + 1) - 48
def ab_te (a : Ab) (h : Nat) : Nat := ab_temp (a 1 (4 * h + 2))
theorem fa_first_eq {p : Nat → Bool} {n j : Nat} (h : ∀ k, k < j → p k = false) (hj : j < n) (hp : p j = true) : fa_first p n = j := by
  have h1 := fa_first_le p n
  rcases Nat.lt_trichotomy (fa_first p n) j with q | q | q
  · have h2 := fa_first_yes p n (by omega)
    rw [h _ q] at h2
    cases h2
  · exact q
  · have h2 := fa_first_no p n j q
    rw [hp] at h2
    cases h2
theorem fa_first_all {p : Nat → Bool} {n : Nat} (h : ∀ k, k < n → p k = false) : fa_first p n = n := by
  have h1 := fa_first_le p n
  rcases Nat.lt_or_ge (fa_first p n) n with q | q
  · have h2 := fa_first_yes p n q
    rw [h _ q] at h2
    cases h2
  · omega
theorem ab_bad_at {a : Ab} {j : Nat} (h : ∀ k, k < j → ab_bad a k = false) (hj : j < a 0 0) (hp : ab_bad a j = true) : ab_hf a = nI j ∧ ab_hc a = 0 := by
  have e : ab_hj a = j := fa_first_eq h hj hp
  unfold ab_hf ab_hc
  rw [e, if_pos hj, if_neg (by omega)]
  exact ⟨rfl, rfl⟩
theorem ab_short {a : Ab} (h : ∀ k, k < a 0 0 → ab_bad a k = false) (h0 : a 0 0 ≠ 0) (h3 : a 0 0 % 4 ≠ 3) : ab_hf a = nI (a 0 0) ∧ ab_hc a = 0 := by
  have e : ab_hj a = a 0 0 := fa_first_all h
  unfold ab_hf ab_hc
  rw [e, if_neg (Nat.lt_irrefl _), if_neg (by omega), if_neg (by omega)]
  exact ⟨rfl, rfl⟩
theorem ab_well {a : Ab} (h : ∀ k, k < a 0 0 → ab_bad a k = false) (h3 : a 0 0 = 0 ∨ a 0 0 % 4 = 3) : ab_hf a = -1 ∧ ab_hc a = (a 0 0 + 1) / 4 := by
  have e : ab_hj a = a 0 0 := fa_first_all h
  unfold ab_hf ab_hc
  rw [e, if_neg (Nat.lt_irrefl _), if_pos h3, if_pos ⟨rfl, h3⟩]
  exact ⟨rfl, rfl⟩
theorem ab_hc_8 (a : Ab) : ab_hc a ≤ 8 := by
  unfold ab_hc
  split
  · next h =>
    by_cases h8 : 32 < a 0 0
    · have h1 := fa_first_no (ab_bad a) (a 0 0) 32 (by have := h.1; unfold ab_hj at this; omega)
      unfold ab_bad at h1
      simp at h1
    · omega
  · omega
theorem ab_hc_bad {a : Ab} {h p : Nat} (hh : h < ab_hc a) (hp : p < 4 * h + 3) : ab_bad a p = false ∧ p < a 0 0 := by
  unfold ab_hc at hh
  split at hh
  · next q =>
    have h1 := q.1
    unfold ab_hj at h1
    have h2 : p < a 0 0 := by omega
    exact ⟨fa_first_no (ab_bad a) (a 0 0) p (by omega), h2⟩
  · omega
theorem ab_dig {a : Ab} {p : Nat} (h : ab_bad a p = false) (hp : p % 4 = 0 ∨ p % 4 = 1) : 48 ≤ a 1 p ∧ a 1 p ≤ 57 := by
  unfold ab_bad ab_fit at h
  rw [if_neg (by omega), if_neg (by omega)] at h
  simp at h
  exact h.2
theorem ab_tl_9 {a : Ab} {h : Nat} (hh : h < ab_hc a) : ab_tl a h ≤ 9 ∧ a 1 (4 * h) = ab_tl a h + 48 := by
  have h1 := ab_dig (ab_hc_bad (p := 4 * h) hh (by omega)).1 (by omega)
  unfold ab_tl
  omega
theorem ab_pu_9 {a : Ab} {h : Nat} (hh : h < ab_hc a) : ab_pu a h ≤ 9 ∧ a 1 (4 * h + 1) = ab_pu a h + 48 := by
  have h1 := ab_dig (ab_hc_bad (p := 4 * h + 1) hh (by omega)).1 (by omega)
  unfold ab_pu
  omega
theorem ab_te_3 {a : Ab} {h : Nat} (hh : h < ab_hc a) : ab_te a h ≤ 3 := by
  have h1 := (ab_hc_bad (p := 4 * h + 2) hh (by omega)).1
  unfold ab_bad ab_fit at h1
  rw [if_pos (by omega)] at h1
  simp at h1
  unfold ab_te
  omega
/-- numbers as they may be -/
def ab_W (a : Ab) : Prop := a 0 0 ≤ 40 ∧ a 0 1 ≤ 10 ∧ (∀ i, a 1 i < 256) ∧ (∀ i, a 2 i < 256) ∧ a 3 0 ≤ 12 ∧ (∀ k, a 4 k ≤ 9) ∧ 1 ≤ a 5 0 ∧ a 5 0 ≤ 9 ∧ a 5 1 ≤ 1 ∧ (∀ i, a 6 i ≤ 9) ∧ a 7 0 ≤ 12 ∧ (∀ k, a 8 k < 8) ∧ (∀ k, a 9 k < 8) ∧ (∀ k, a 10 k ≤ 1)
/-- the reference's texts -/
def rn_T (a : Ab) (σ : ra_St) : Prop := σ 83 0 = nI (a 0 0) ∧ σ 83 1 = nI (a 0 1) ∧ (∀ i, i < a 0 0 → σ 84 i = nI (a 1 i)) ∧ (∀ i, i < a 0 1 → σ 84 (40 + i) = nI (a 2 i))
/-- which cells may change; of the reference's own fields only houses -/
def ra_fr (cs : List Nat) (σ σ' : ra_St) : Prop := (∀ c, c ∉ cs → c ≠ 82 → σ' c = σ c) ∧ ∀ j, j ≠ 2 → σ' 82 j = σ 82 j
theorem ra_fr.rf {cs : List Nat} {σ : ra_St} : ra_fr cs σ σ := ⟨fun _ _ _ => rfl, fun _ _ => rfl⟩
theorem ra_fr.tr {cs cs' : List Nat} {σ σ' σ'' : ra_St} (h : ra_fr cs σ σ') (h2 : ra_fr cs' σ' σ'') (hs : ∀ c ∈ cs', c ∈ cs) : ra_fr cs σ σ'' :=
  ⟨fun c hc h8 => (h2.1 c (fun q => hc (hs c q)) h8).trans (h.1 c hc h8), fun j hj => (h2.2 j hj).trans (h.2 j hj)⟩
theorem ra_fr.mono {cs cs' : List Nat} {σ σ' : ra_St} (h : ra_fr cs σ σ') (hs : ∀ c ∈ cs, c ∈ cs') : ra_fr cs' σ σ' :=
  ⟨fun c hc h8 => h.1 c (fun q => hc (hs c q)) h8, h.2⟩
theorem ra_fr.sw {cs : List Nat} {σ σ' : ra_St} {c i : Nat} {v : Int32} (h : ra_fr cs σ σ') (hc : c ∈ cs) (h8 : c ≠ 82) : ra_fr cs σ (ra_sw σ' c i v) :=
  ⟨fun d hd h82 => (ra_su_ne _ _ (fun q => hd (by rw [q]; exact hc))).trans (h.1 d hd h82), fun j hj => by rw [show ra_sw σ' c i v 82 = σ' 82 from ra_su_ne _ _ (Ne.symm h8)]; exact h.2 j hj⟩
theorem ra_fr.s2 {cs : List Nat} {σ σ' : ra_St} {v : Int32} (h : ra_fr cs σ σ') : ra_fr cs σ (ra_sw σ' 82 2 v) :=
  ⟨fun d hd h82 => (ra_su_ne _ _ h82).trans (h.1 d hd h82), fun j hj => by
    rw [show ra_sw σ' 82 2 v 82 = upd (σ' 82) 2 v from ra_su_self _ _ _]
    unfold upd
    rw [if_neg hj]
    exact h.2 j hj⟩
theorem sw_at (σ : ra_St) (c i : Nat) (v : Int32) (d j : Nat) : ra_sw σ c i v d j = if d = c then (if j = i then v else σ c j) else σ d j := by
  unfold ra_sw ra_su
  by_cases h : d = c
  · subst h
    rw [if_pos rfl, if_pos rfl]
    rfl
  · rw [if_neg h, if_neg h]
theorem rn_T.fr {a : Ab} {σ σ' : ra_St} {cs : List Nat} (h : rn_T a σ) (hf : ra_fr cs σ σ') (h3 : 83 ∉ cs) (h4 : 84 ∉ cs) : rn_T a σ' := by
  unfold rn_T
  rw [hf.1 83 h3 (by decide), hf.1 84 h4 (by decide)]
  exact h
def sp_N_byteAt (a : Ab) : ra_Sp := ra_f2 82 (fun t k σ Z => rn_T a σ ∧ vp_in t 2 ∧ vp_in k 100 ∧ (k.toNatClampNeg < a 0 t.toNatClampNeg → Z (some (.int (nI (a (1 + t.toNatClampNeg) k.toNatClampNeg)))) σ) ∧ (a 0 t.toNatClampNeg ≤ k.toNatClampNeg → Z (some (.int (-1))) σ))
theorem q_N_byteAt {a : Ab} {oo : Nat} {t k : Int32} {σ : ra_St} {Z : ra_R} : sp_N_byteAt a [.ref oo, .int t, .int k] σ Z = (oo = 82 ∧ (rn_T a σ ∧ vp_in t 2 ∧ vp_in k 100 ∧ (k.toNatClampNeg < a 0 t.toNatClampNeg → Z (some (.int (nI (a (1 + t.toNatClampNeg) k.toNatClampNeg)))) σ) ∧ (a 0 t.toNatClampNeg ≤ k.toNatClampNeg → Z (some (.int (-1))) σ))) := rfl
theorem k_N_byteAt {l : Launch} {X : ra_X} {a : Ab} (hW : ab_W a) : ra_MOK l X mi_N_byteAt (sp_N_byteAt a) := by
  refine g_N_byteAt (sp_N_byteAt a) ?_
  intro as σ Z _ _ h
  obtain ⟨t, k, rfl, hT, ht, hk, h1, h2⟩ := x_f2 h
  obtain ⟨tn, ht2, rfl⟩ := vp_in_of ht (by decide)
  obtain ⟨kn, hk2, rfl⟩ := vp_in_of hk (by decide)
  obtain ⟨T1, T2, T5, T6⟩ := hT
  rw [n_cl (by omega), n_cl (by omega)] at h1 h2
  have hn : σ 83 tn = nI (a 0 tn) ∧ a 0 tn ≤ 40 ∧ 40 * tn ≤ 40 ∧ (tn = 1 → a 0 tn ≤ 10) := by
    rcases (show tn = 0 ∨ tn = 1 by omega) with rfl | rfl
    · exact ⟨T1, hW.1, by omega, by omega⟩
    · exact ⟨T2, by have := hW.2.1; omega, by omega, fun _ => hW.2.1⟩
  simp (disch := omega) only [b_N_byteAt_25, b_N_byteAt_24, b_N_byteAt_10, b_N_byteAt_0, e_al0, e_il1, e_il2, e_c, e_i2, e_b2, e_gr, e_ald, e_ir, cl_82, cl_83, ln_83, cl_84, ln_84, tg_82_0, tg_82_1, Nat.reduceAdd, true_and, and_true, true_implies, not_true_eq_false, false_implies, not_false_eq_true, imp_self, forall_const, List.append_nil, ra_I, ra_J, ra_pad, true_or, or_true, Nat.reduceEqDiff, ra_bz, eq_self, if_true, if_false, false_and, and_false, Nat.zero_le, List.cons_append, List.nil_append, Nat.reduceLT, Nat.reduceLeDiff, Nat.reduceMul, Nat.reduceSub, n_0, n_1, n_2, n_3, n_4, n_5, n_6, n_7, n_8, n_9, n_10, n_12, n_40, n_48, n_57, n_59, n_72, n_99, n_102, n_103, n_107, n_108, n_192, n_255, n_256, n_999, n_1000, n_104, nI_add, pk_mul, n_cl, n_in, n_le, n_lt, n_eq, n_m1, n_m1', n_lem1, n_m1le, n_ltm1, n_m1lt, n_lepred, n_shl, fa_or, hn.1]
  refine ⟨by omega, h2, fun q => ⟨by omega, ?_⟩⟩
  rcases (show tn = 0 ∨ tn = 1 by omega) with rfl | rfl
  · rw [show 40 * 0 + kn = kn by omega, T5 kn (by omega)]
    exact h1 (by omega)
  · rw [show 40 * 1 + kn = 40 + kn by omega, T6 kn (by omega)]
    exact h1 (by omega)
theorem ab_byte {a : Ab} (hW : ab_W a) {t k : Nat} (ht : t < 2) : a (1 + t) k < 256 := by
  rcases (show t = 0 ∨ t = 1 by omega) with rfl | rfl
  · exact hW.2.2.1 k
  · exact hW.2.2.2.1 k
def sp_N_figureAt (a : Ab) : ra_Sp := ra_f2 82 (fun t k σ Z => rn_T a σ ∧ vp_in t 2 ∧ vp_in k 100 ∧ (k.toNatClampNeg < a 0 t.toNatClampNeg → 48 ≤ a (1 + t.toNatClampNeg) k.toNatClampNeg → a (1 + t.toNatClampNeg) k.toNatClampNeg ≤ 57 → Z (some (.int (nI (a (1 + t.toNatClampNeg) k.toNatClampNeg - 48)))) σ) ∧ (¬ (k.toNatClampNeg < a 0 t.toNatClampNeg ∧ 48 ≤ a (1 + t.toNatClampNeg) k.toNatClampNeg ∧ a (1 + t.toNatClampNeg) k.toNatClampNeg ≤ 57) → Z (some (.int (-1))) σ))
theorem q_N_figureAt {a : Ab} {oo : Nat} {t k : Int32} {σ : ra_St} {Z : ra_R} : sp_N_figureAt a [.ref oo, .int t, .int k] σ Z = (oo = 82 ∧ (rn_T a σ ∧ vp_in t 2 ∧ vp_in k 100 ∧ (k.toNatClampNeg < a 0 t.toNatClampNeg → 48 ≤ a (1 + t.toNatClampNeg) k.toNatClampNeg → a (1 + t.toNatClampNeg) k.toNatClampNeg ≤ 57 → Z (some (.int (nI (a (1 + t.toNatClampNeg) k.toNatClampNeg - 48)))) σ) ∧ (¬ (k.toNatClampNeg < a 0 t.toNatClampNeg ∧ 48 ≤ a (1 + t.toNatClampNeg) k.toNatClampNeg ∧ a (1 + t.toNatClampNeg) k.toNatClampNeg ≤ 57) → Z (some (.int (-1))) σ))) := rfl
theorem k_N_figureAt {l : Launch} {X : ra_X} {a : Ab} (hW : ab_W a) : ra_MOK l X mi_N_figureAt (sp_N_figureAt a) := by
  refine g_N_figureAt (k_N_byteAt hW) k_N_in (sp_N_figureAt a) ?_
  intro as σ Z _ _ h
  obtain ⟨t, k, rfl, hT, ht, hk, h1, h2⟩ := x_f2 h
  obtain ⟨tn, ht2, rfl⟩ := vp_in_of ht (by decide)
  obtain ⟨kn, hk2, rfl⟩ := vp_in_of hk (by decide)
  rw [n_cl (by omega), n_cl (by omega)] at h1 h2
  have hb := ab_byte hW (k := kn) ht2
  simp (disch := omega) only [b_N_figureAt_26, b_N_figureAt_25, b_N_figureAt_18, b_N_figureAt_0, e_il3, e_al0, e_il1, e_il2, e_is3i, e_is3r, e_is3n, e_c, e_i2, e_b1, e_ir, e_cs3, e_cv3, e_hd, e_c10, e_c1i, e_c1r, e_sh0, e_sh1, e_sh2, e_sh3, e_sh4, e_tls, e_tln, e_tl0, e_tl1, cl_82, q_N_byteAt, q_N_in, Nat.reduceAdd, true_and, and_true, true_implies, not_true_eq_false, false_implies, not_false_eq_true, imp_self, forall_const, List.append_nil, ra_I, ra_J, ra_pad, true_or, or_true, Nat.reduceEqDiff, ra_bz, eq_self, if_true, if_false, false_and, and_false, Nat.zero_le, List.cons_append, List.nil_append, Nat.reduceLT, Nat.reduceLeDiff, Nat.reduceMul, Nat.reduceSub, n_0, n_1, n_2, n_3, n_4, n_5, n_6, n_7, n_8, n_9, n_10, n_12, n_40, n_48, n_57, n_59, n_72, n_99, n_102, n_103, n_107, n_108, n_192, n_255, n_256, n_999, n_1000, n_104, nI_add, pk_mul, n_cl, n_in, n_le, n_lt, n_eq, n_m1, n_m1', n_lem1, n_m1le, n_ltm1, n_m1lt, n_lepred, n_shl, fa_or, n_sub]
  refine ⟨hT, ht2, hk2, fun q => ⟨fun z => ?_, fun z => h2 (fun w => z w.2)⟩, fun q => h2 (fun w => by omega)⟩
  rw [n_sub z.1]
  exact h1 q z.1 z.2
