/-! what is told: texts, rains, settings, wishes, facts change -/
abbrev Bb : Type := Nat → Nat → Int32
/-- claims, sheets, the finding -/
def rn_Q (b : Bb) (σ : ra_St) : Prop := (∀ h, h < 8 → σ 91 h = b 0 h) ∧ (∀ s, s < 4 → σ 108 s = b 1 s ∧ σ 109 s = b 2 s ∧ σ 110 s = b 3 s) ∧ (∀ i, i < 192 → σ 111 i = b 4 i) ∧ σ 82 33 = b 5 0
def bb_W (b : Bb) : Prop := ∀ s, s < 4 → (b 1 s = 0 ∨ b 1 s = 1) ∧ (∃ f : Nat, f ≤ 2 ∧ b 2 s = nI f) ∧ ∃ n : Nat, n ≤ 48 ∧ b 3 s = nI n
def rn_A (a : Ab) (b : Bb) (σ : ra_St) : Prop := rn_R a σ ∧ rn_Q b σ
def ra_lo (σ σ' : ra_St) : Prop := ∀ c, c < 82 → σ' c = σ c
theorem ra_lo.rf {σ : ra_St} : ra_lo σ σ := fun _ _ => rfl
theorem ra_lo.tr {σ σ' σ'' : ra_St} (h : ra_lo σ σ') (h2 : ra_lo σ' σ'') : ra_lo σ σ'' := fun c hc => (h2 c hc).trans (h c hc)
theorem ra_lo.sw {σ σ' : ra_St} {c i : Nat} {v : Int32} (h : ra_lo σ σ') (hc : 82 ≤ c) : ra_lo σ (ra_sw σ' c i v) :=
  fun d hd => (ra_su_ne _ _ (by omega)).trans (h d hd)
theorem ra_fr.lo {σ σ' : ra_St} {cs : List Nat} (h : ra_fr cs σ σ') (hs : ∀ c ∈ cs, 82 ≤ c) : ra_lo σ σ' :=
  fun c hc => h.1 c (fun q => by have := hs c q; omega) (by omega)
theorem rn_Q.sw {b : Bb} {σ : ra_St} {c i : Nat} {v : Int32} (h : rn_Q b σ) (h1 : c ∉ [91, 108, 109, 110, 111]) (h2 : c = 82 → i ≠ 33) : rn_Q b (ra_sw σ c i v) := by
  simp only [List.mem_cons, List.not_mem_nil, or_false, not_or] at h1
  unfold rn_Q
  rw [show ra_sw σ c i v 91 = σ 91 from ra_su_ne _ _ (Ne.symm h1.1), show ra_sw σ c i v 108 = σ 108 from ra_su_ne _ _ (Ne.symm h1.2.1), show ra_sw σ c i v 109 = σ 109 from ra_su_ne _ _ (Ne.symm h1.2.2.1), show ra_sw σ c i v 110 = σ 110 from ra_su_ne _ _ (Ne.symm h1.2.2.2.1), show ra_sw σ c i v 111 = σ 111 from ra_su_ne _ _ (Ne.symm h1.2.2.2.2)]
  refine ⟨h.1, h.2.1, h.2.2.1, ?_⟩
  rw [sw_at]
  split
  · next e => rw [if_neg (fun z => h2 e.symm z.symm), ← e]; exact h.2.2.2
  · exact h.2.2.2
theorem rn_Q.fr {b : Bb} {σ σ' : ra_St} {cs : List Nat} (h : rn_Q b σ) (hf : ra_fr cs σ σ') (hs : ∀ c ∈ cs, c ∈ rn_scr) : rn_Q b σ' := by
  have hf := hf.mono hs
  unfold rn_Q
  rw [hf.1 91 (by decide) (by decide), hf.1 108 (by decide) (by decide), hf.1 109 (by decide) (by decide), hf.1 110 (by decide) (by decide), hf.1 111 (by decide) (by decide), hf.2 33 (by decide)]
  exact h
theorem rn_A.fr {a : Ab} {b : Bb} {σ σ' : ra_St} {cs : List Nat} (h : rn_A a b σ) (hf : ra_fr cs σ σ') (hs : ∀ c ∈ cs, c ∈ rn_scr) : rn_A a b σ' := ⟨h.1.fr hf hs, h.2.fr hf hs⟩
def ab_u (a : Ab) (i j v : Nat) : Ab := fun p q => if p = i ∧ q = j then v else a p q
def tx_most (t : Nat) : Nat := if t = 0 then 40 else 10
noncomputable def ab_type (a : Ab) (t x : Int32) : Ab × Int32 := by
  classical
  exact if an_in t 1 ∧ an_in x 255 then (if a 0 t.toNatClampNeg = tx_most t.toNatClampNeg then (a, -4) else (ab_u (ab_u a (1 + t.toNatClampNeg) (a 0 t.toNatClampNeg) x.toNatClampNeg) 0 t.toNatClampNeg (a 0 t.toNatClampNeg + 1), nI (a 0 t.toNatClampNeg + 1))) else (a, -2)
theorem ab_type_no {a : Ab} {t x : Int32} (h : ¬ (an_in t 1 ∧ an_in x 255)) : ab_type a t x = (a, -2) := by
  unfold ab_type
  exact if_neg h
theorem ab_type_full {a : Ab} {t x : Nat} (ht : t ≤ 1) (hx : x ≤ 255) (hf : a 0 t = tx_most t) : ab_type a (nI t) (nI x) = (a, -4) := by
  unfold ab_type
  rw [if_pos ⟨an_in_nI ht (by decide), an_in_nI hx (by decide)⟩, n_cl (by omega), if_pos hf]
theorem ab_type_yes {a : Ab} {t x : Nat} (ht : t ≤ 1) (hx : x ≤ 255) (hf : a 0 t ≠ tx_most t) : ab_type a (nI t) (nI x) = (ab_u (ab_u a (1 + t) (a 0 t) x) 0 t (a 0 t + 1), nI (a 0 t + 1)) := by
  unfold ab_type
  rw [if_pos ⟨an_in_nI ht (by decide), an_in_nI hx (by decide)⟩, n_cl (by omega), if_neg hf, n_cl (by omega)]
def sp_N_type (a : Ab) (b : Bb) : ra_Sp := ra_f2 82 (fun t x σ Z => rn_A a b σ ∧ ∀ σ', rn_A (ab_type a t x).1 b σ' → ra_lo σ σ' → Z (some (.int (ab_type a t x).2)) σ')
theorem q_N_type {a : Ab} {b : Bb} {oo : Nat} {t x : Int32} {σ : ra_St} {Z : ra_R} : sp_N_type a b [.ref oo, .int t, .int x] σ Z = (oo = 82 ∧ (rn_A a b σ ∧ ∀ σ', rn_A (ab_type a t x).1 b σ' → ra_lo σ σ' → Z (some (.int (ab_type a t x).2)) σ')) := rfl
theorem k_N_type {l : Launch} {X : ra_X} {a : Ab} {b : Bb} (hW : ab_W a) : ra_MOK l X mi_N_type (sp_N_type a b) := by
  refine g_N_type k_N_in (sp_N_type a b) ?_
  intro as σ Z _ _ h
  obtain ⟨t, x, rfl, hA, hZ⟩ := x_f2 h
  have w1 := hW.1
  have w2 := hW.2.1
  by_cases hno : an_in t 1 ∧ an_in x 255
  · obtain ⟨t, ht, rfl⟩ := an_in_of hno.1 (by decide)
    obtain ⟨x, hx, rfl⟩ := an_in_of hno.2 (by decide)
    have hn : σ 83 t = nI (a 0 t) ∧ a 0 t ≤ tx_most t := by
      unfold tx_most
      rcases (show t = 0 ∨ t = 1 by omega) with rfl | rfl
      · exact ⟨hA.1.1.1, w1⟩
      · exact ⟨hA.1.1.2.1, w2⟩
    have hm : tx_most t ≤ 40 ∧ (t = 0 → tx_most t = 40) ∧ (¬ t = 0 → tx_most t = 10) := by
      unfold tx_most
      split <;> omega
    have full : a 0 t = tx_most t → Z (some (.int (-4))) σ := by
      intro q
      rw [ab_type_full ht hx q] at hZ
      exact hZ σ hA ra_lo.rf
    have fits : a 0 t ≠ tx_most t → Z (some (.int (nI (a 0 t + 1)))) (ra_sw (ra_sw σ 84 (40 * t + a 0 t) (nI x)) 83 t (nI (a 0 t + 1))) := by
      intro q
      rw [ab_type_yes ht hx q] at hZ
      refine hZ _ ⟨?_, (hA.2.sw (by decide) (fun q => by omega)).sw (by decide) (fun q => by omega)⟩ ((ra_lo.rf.sw (by decide)).sw (by decide))
      obtain ⟨⟨g1, g2, g3, g4⟩, g5, g6, g7, g8, g9, g10, g11⟩ := hA.1
      rcases (show t = 0 ∨ t = 1 by omega) with rfl | rfl
      · refine ⟨⟨?_, ?_, fun i hi => ?_, fun i hi => ?_⟩, ?_⟩
        · simp [sw_at, ab_u]
        · simpa [sw_at, ab_u] using g2
        · simp [ab_u] at hi
          by_cases e : i = a 0 0
          · subst e; simp [sw_at, ab_u]
          · simpa [sw_at, ab_u, e] using g3 i (by omega)
        · simp [ab_u] at hi
          simpa [sw_at, ab_u, show ¬ 40 + i = a 0 0 by omega] using g4 i hi
        · simpa [sw_at, ab_u] using ⟨g5, g6, g7, g8, g9, g10, g11⟩
      · refine ⟨⟨?_, ?_, fun i hi => ?_, fun i hi => ?_⟩, ?_⟩
        · simpa [sw_at, ab_u] using g1
        · simp [sw_at, ab_u]
        · simp [ab_u] at hi
          simpa [sw_at, ab_u, show ¬ i = 40 + a 0 1 by omega] using g3 i hi
        · simp [ab_u] at hi
          by_cases e : i = a 0 1
          · subst e; simp [sw_at, ab_u]
          · simpa [sw_at, ab_u, e] using g4 i (by omega)
        · simpa [sw_at, ab_u] using ⟨g5, g6, g7, g8, g9, g10, g11⟩
    simp (disch := omega) only [b_N_type_46, b_N_type_43, b_N_type_40, b_N_type_38, b_N_type_33, b_N_type_23, b_N_type_20, b_N_type_9, b_N_type_0, e_al0, e_il1, e_il2, e_c, e_i2, e_dup2, e_b1, e_b2, e_gr, e_ald, e_ast, e_ir, e_cs3, e_c10, e_c1i, e_c1r, e_sh0, e_sh1, e_sh2, e_sh3, e_sh4, e_tls, e_tln, e_tl0, e_tl1, cl_82, cl_83, ln_83, cl_84, ln_84, tg_82_0, tg_82_1, q_N_in, Nat.reduceAdd, true_and, and_true, true_implies, not_true_eq_false, false_implies, not_false_eq_true, imp_self, forall_const, List.append_nil, ra_I, ra_J, ra_pad, true_or, or_true, Nat.reduceEqDiff, ra_bz, eq_self, if_true, if_false, false_and, and_false, Nat.zero_le, List.cons_append, List.nil_append, Nat.reduceLT, Nat.reduceLeDiff, Nat.reduceMul, Nat.reduceSub, n_0, n_1, n_2, n_3, n_4, n_5, n_6, n_7, n_8, n_9, n_10, n_12, n_40, n_48, n_57, n_59, n_72, n_99, n_102, n_103, n_107, n_108, n_192, n_255, n_256, n_999, n_1000, n_104, nI_add, pk_mul, n_cl, n_inT, n_le, n_lt, n_eq, n_m1, n_m1', n_lem1, n_m1le, n_ltm1, n_m1lt, n_lepred, n_shl, fa_or, hn.1, sw_at]
    exact ⟨fun _ => ⟨fun _ => ⟨fun q => ⟨fun q2 => full (by omega), fun q2 => fits (by omega)⟩, fun q => ⟨fun q2 => full (by omega), fun q2 => fits (by omega)⟩⟩, fun q => by omega⟩, fun q => by omega⟩
  · rw [ab_type_no hno] at hZ
    have h9 := hZ σ hA ra_lo.rf
    simp (disch := omega) only [b_N_type_46, b_N_type_43, b_N_type_40, b_N_type_38, b_N_type_33, b_N_type_23, b_N_type_20, b_N_type_9, b_N_type_0, e_al0, e_il1, e_il2, e_c, e_i2, e_dup2, e_b1, e_b2, e_gr, e_ald, e_ast, e_ir, e_cs3, e_c10, e_c1i, e_c1r, e_sh0, e_sh1, e_sh2, e_sh3, e_sh4, e_tls, e_tln, e_tl0, e_tl1, cl_82, cl_83, ln_83, cl_84, ln_84, tg_82_0, tg_82_1, q_N_in, Nat.reduceAdd, true_and, and_true, true_implies, not_true_eq_false, false_implies, not_false_eq_true, imp_self, forall_const, List.append_nil, ra_I, ra_J, ra_pad, true_or, or_true, Nat.reduceEqDiff, ra_bz, eq_self, if_true, if_false, false_and, and_false, Nat.zero_le, List.cons_append, List.nil_append, Nat.reduceLT, Nat.reduceLeDiff, Nat.reduceMul, Nat.reduceSub, n_0, n_1, n_2, n_3, n_4, n_5, n_6, n_7, n_8, n_9, n_10, n_12, n_40, n_48, n_57, n_59, n_72, n_99, n_102, n_103, n_107, n_108, n_192, n_255, n_256, n_999, n_1000, n_104, nI_add, pk_mul, n_cl, n_inT, n_le, n_lt, n_eq, n_m1, n_m1', n_lem1, n_m1le, n_ltm1, n_m1lt, n_lepred, n_shl, fa_or]
    refine ⟨fun q => ⟨fun q2 => absurd ⟨q, q2⟩ hno, fun _ => h9⟩, fun _ => h9⟩
noncomputable def ab_wipe (a : Ab) (t : Int32) : Ab × Int32 := by
  classical
  exact if an_in t 1 then (ab_u a 0 t.toNatClampNeg 0, nI (a 0 t.toNatClampNeg)) else (a, -2)
theorem ab_wipe_no {a : Ab} {t : Int32} (h : ¬ an_in t 1) : ab_wipe a t = (a, -2) := by
  unfold ab_wipe
  exact if_neg h
theorem ab_wipe_yes {a : Ab} {t : Nat} (ht : t ≤ 1) : ab_wipe a (nI t) = (ab_u a 0 t 0, nI (a 0 t)) := by
  unfold ab_wipe
  rw [if_pos (an_in_nI ht (by decide)), n_cl (by omega)]
def sp_N_wipe (a : Ab) (b : Bb) : ra_Sp := ra_f1 82 (fun t σ Z => rn_A a b σ ∧ ∀ σ', rn_A (ab_wipe a t).1 b σ' → ra_lo σ σ' → Z (some (.int (ab_wipe a t).2)) σ')
theorem q_N_wipe {a : Ab} {b : Bb} {oo : Nat} {t : Int32} {σ : ra_St} {Z : ra_R} : sp_N_wipe a b [.ref oo, .int t] σ Z = (oo = 82 ∧ (rn_A a b σ ∧ ∀ σ', rn_A (ab_wipe a t).1 b σ' → ra_lo σ σ' → Z (some (.int (ab_wipe a t).2)) σ')) := rfl
theorem k_N_wipe {l : Launch} {X : ra_X} {a : Ab} {b : Bb} (hW : ab_W a) : ra_MOK l X mi_N_wipe (sp_N_wipe a b) := by
  refine g_N_wipe k_N_in (sp_N_wipe a b) ?_
  intro as σ Z _ _ h
  obtain ⟨t, rfl, hA, hZ⟩ := x_f1 h
  by_cases hno : an_in t 1
  · obtain ⟨t, ht, rfl⟩ := an_in_of hno (by decide)
    rw [ab_wipe_yes ht] at hZ
    have hn : σ 83 t = nI (a 0 t) := by
      rcases (show t = 0 ∨ t = 1 by omega) with rfl | rfl
      · exact hA.1.1.1
      · exact hA.1.1.2.1
    simp (disch := omega) only [b_N_wipe_12, b_N_wipe_9, b_N_wipe_0, e_al0, e_il1, e_il2, e_is2i, e_is2r, e_is2n, e_c, e_b1, e_gr, e_ald, e_ast, e_ir, e_cs3, e_c10, e_c1i, e_c1r, e_sh0, e_sh1, e_sh2, e_sh3, e_sh4, e_tls, e_tln, e_tl0, e_tl1, cl_82, cl_83, ln_83, tg_82_0, q_N_in, Nat.reduceAdd, true_and, and_true, true_implies, not_true_eq_false, false_implies, not_false_eq_true, imp_self, forall_const, List.append_nil, ra_I, ra_J, ra_pad, true_or, or_true, Nat.reduceEqDiff, ra_bz, eq_self, if_true, if_false, false_and, and_false, Nat.zero_le, List.cons_append, List.nil_append, Nat.reduceLT, Nat.reduceLeDiff, Nat.reduceMul, Nat.reduceSub, n_0, n_1, n_2, n_3, n_4, n_5, n_6, n_7, n_8, n_9, n_10, n_12, n_40, n_48, n_57, n_59, n_72, n_99, n_102, n_103, n_107, n_108, n_192, n_255, n_256, n_999, n_1000, n_104, nI_add, pk_mul, n_cl, n_inT, n_le, n_lt, n_eq, n_m1, n_m1', n_lem1, n_m1le, n_ltm1, n_m1lt, n_lepred, n_shl, fa_or, hn]
    refine ⟨fun _ => hZ _ ⟨?_, hA.2.sw (by decide) (fun q => by omega)⟩ (ra_lo.rf.sw (by decide)), fun q => by omega⟩
    obtain ⟨⟨g1, g2, g3, g4⟩, g5, g6, g7, g8, g9, g10, g11⟩ := hA.1
    rcases (show t = 0 ∨ t = 1 by omega) with rfl | rfl
    · refine ⟨⟨?_, ?_, fun i hi => ?_, fun i hi => ?_⟩, ?_⟩
      · simp [sw_at, ab_u]
      · simpa [sw_at, ab_u] using g2
      · simp [ab_u] at hi
      · simp [ab_u] at hi
        simpa [sw_at, ab_u] using g4 i hi
      · simpa [sw_at, ab_u] using ⟨g5, g6, g7, g8, g9, g10, g11⟩
    · refine ⟨⟨?_, ?_, fun i hi => ?_, fun i hi => ?_⟩, ?_⟩
      · simpa [sw_at, ab_u] using g1
      · simp [sw_at, ab_u]
      · simp [ab_u] at hi
        simpa [sw_at, ab_u] using g3 i hi
      · simp [ab_u] at hi
      · simpa [sw_at, ab_u] using ⟨g5, g6, g7, g8, g9, g10, g11⟩
  · rw [ab_wipe_no hno] at hZ
    have h9 := hZ σ hA ra_lo.rf
    simp (disch := omega) only [b_N_wipe_12, b_N_wipe_9, b_N_wipe_0, e_al0, e_il1, e_il2, e_is2i, e_is2r, e_is2n, e_c, e_b1, e_gr, e_ald, e_ast, e_ir, e_cs3, e_c10, e_c1i, e_c1r, e_sh0, e_sh1, e_sh2, e_sh3, e_sh4, e_tls, e_tln, e_tl0, e_tl1, cl_82, cl_83, ln_83, tg_82_0, q_N_in, Nat.reduceAdd, true_and, and_true, true_implies, not_true_eq_false, false_implies, not_false_eq_true, imp_self, forall_const, List.append_nil, ra_I, ra_J, ra_pad, true_or, or_true, Nat.reduceEqDiff, ra_bz, eq_self, if_true, if_false, false_and, and_false, Nat.zero_le, List.cons_append, List.nil_append, Nat.reduceLT, Nat.reduceLeDiff, Nat.reduceMul, Nat.reduceSub, n_0, n_1, n_2, n_3, n_4, n_5, n_6, n_7, n_8, n_9, n_10, n_12, n_40, n_48, n_57, n_59, n_72, n_99, n_102, n_103, n_107, n_108, n_192, n_255, n_256, n_999, n_1000, n_104, nI_add, pk_mul, n_cl, n_inT, n_le, n_lt, n_eq, n_m1, n_m1', n_lem1, n_m1le, n_ltm1, n_m1lt, n_lepred, n_shl, fa_or]
    exact ⟨fun q => absurd q hno, fun _ => h9⟩
noncomputable def ab_rain (a : Ab) (v : Int32) : Ab × Int32 := by
  classical
  exact if an_in v 9 then (if a 3 0 = 12 then (a, -4) else (ab_u (ab_u a 4 (a 3 0) v.toNatClampNeg) 3 0 (a 3 0 + 1), nI (a 3 0 + 1))) else (a, -2)
theorem ab_rain_no {a : Ab} {v : Int32} (h : ¬ an_in v 9) : ab_rain a v = (a, -2) := by
  unfold ab_rain
  exact if_neg h
theorem ab_rain_full {a : Ab} {v : Nat} (hv : v ≤ 9) (hf : a 3 0 = 12) : ab_rain a (nI v) = (a, -4) := by
  unfold ab_rain
  rw [if_pos (an_in_nI hv (by decide)), if_pos hf]
theorem ab_rain_yes {a : Ab} {v : Nat} (hv : v ≤ 9) (hf : a 3 0 ≠ 12) : ab_rain a (nI v) = (ab_u (ab_u a 4 (a 3 0) v) 3 0 (a 3 0 + 1), nI (a 3 0 + 1)) := by
  unfold ab_rain
  rw [if_pos (an_in_nI hv (by decide)), if_neg hf, n_cl (by omega)]
def sp_N_rainMore (b : Bb) : ra_Sp := ra_f1 82 (fun v σ Z => ∃ a, ab_W a ∧ rn_A a b σ ∧ ∀ σ', rn_A (ab_rain a v).1 b σ' → ra_lo σ σ' → Z (some (.int (ab_rain a v).2)) σ')
theorem q_N_rainMore {b : Bb} {oo : Nat} {v : Int32} {σ : ra_St} {Z : ra_R} : sp_N_rainMore b [.ref oo, .int v] σ Z = (oo = 82 ∧ (∃ a, ab_W a ∧ rn_A a b σ ∧ ∀ σ', rn_A (ab_rain a v).1 b σ' → ra_lo σ σ' → Z (some (.int (ab_rain a v).2)) σ')) := rfl
theorem k_N_rainMore {l : Launch} {X : ra_X} {b : Bb} : ra_MOK l X mi_N_rainMore (sp_N_rainMore b) := by
  refine g_N_rainMore k_N_in (sp_N_rainMore b) ?_
  intro as σ Z _ _ h
  obtain ⟨v, rfl, a, hW, hA, hZ⟩ := x_f1 h
  have w := hW.2.2.2.2.1
  by_cases hno : an_in v 9
  · obtain ⟨v, hv, rfl⟩ := an_in_of hno (by decide)
    by_cases hf : a 3 0 = 12
    · rw [ab_rain_full hv hf] at hZ
      have h9 := hZ σ hA ra_lo.rf
      simp (disch := omega) only [b_N_rainMore_22, b_N_rainMore_13, b_N_rainMore_10, b_N_rainMore_0, e_al0, e_il1, e_c, e_i2, e_b1, e_b2, e_gi, e_gr, e_pi, e_ast, e_ir, e_dupi, e_dupr, e_cs3, e_c10, e_c1i, e_c1r, e_sh0, e_sh1, e_sh2, e_sh3, e_sh4, e_tls, e_tln, e_tl0, e_tl1, cl_82, cl_89, ln_89, tg_82_8, q_N_in, Nat.reduceAdd, true_and, and_true, true_implies, not_true_eq_false, false_implies, not_false_eq_true, imp_self, forall_const, List.append_nil, ra_I, ra_J, ra_pad, true_or, or_true, Nat.reduceEqDiff, ra_bz, eq_self, if_true, if_false, false_and, and_false, Nat.zero_le, List.cons_append, List.nil_append, Nat.reduceLT, Nat.reduceLeDiff, Nat.reduceMul, Nat.reduceSub, n_0, n_1, n_2, n_3, n_4, n_5, n_6, n_7, n_8, n_9, n_10, n_12, n_40, n_48, n_57, n_59, n_72, n_99, n_102, n_103, n_107, n_108, n_192, n_255, n_256, n_999, n_1000, n_104, nI_add, pk_mul, n_cl, n_inT, n_le, n_lt, n_eq, n_m1, n_m1', n_lem1, n_m1le, n_ltm1, n_m1lt, n_lepred, n_shl, fa_or, hA.1.2.1]
      exact ⟨fun _ => ⟨fun _ => h9, fun q => absurd hf q⟩, fun q => by omega⟩
    · rw [ab_rain_yes hv hf] at hZ
      simp (disch := omega) only [b_N_rainMore_25, b_N_rainMore_22, b_N_rainMore_13, b_N_rainMore_10, b_N_rainMore_0, e_al0, e_il1, e_c, e_i2, e_b1, e_b2, e_gi, e_gr, e_pi, e_ast, e_ir, e_dupi, e_dupr, e_cs3, e_c10, e_c1i, e_c1r, e_sh0, e_sh1, e_sh2, e_sh3, e_sh4, e_tls, e_tln, e_tl0, e_tl1, cl_82, cl_89, ln_89, tg_82_8, q_N_in, Nat.reduceAdd, true_and, and_true, true_implies, not_true_eq_false, false_implies, not_false_eq_true, imp_self, forall_const, List.append_nil, ra_I, ra_J, ra_pad, true_or, or_true, Nat.reduceEqDiff, ra_bz, eq_self, if_true, if_false, false_and, and_false, Nat.zero_le, List.cons_append, List.nil_append, Nat.reduceLT, Nat.reduceLeDiff, Nat.reduceMul, Nat.reduceSub, n_0, n_1, n_2, n_3, n_4, n_5, n_6, n_7, n_8, n_9, n_10, n_12, n_40, n_48, n_57, n_59, n_72, n_99, n_102, n_103, n_107, n_108, n_192, n_255, n_256, n_999, n_1000, n_104, nI_add, pk_mul, n_cl, n_inT, n_le, n_lt, n_eq, n_m1, n_m1', n_lem1, n_m1le, n_ltm1, n_m1lt, n_lepred, n_shl, fa_or, hA.1.2.1, sw_at]
      refine ⟨fun _ => ⟨fun q => absurd q hf, fun q => hZ _ ⟨?_, (hA.2.sw (by decide) (fun q => by omega)).sw (by decide) (fun q => by omega)⟩ ((ra_lo.rf.sw (by decide)).sw (by decide))⟩, fun q => by omega⟩
      obtain ⟨⟨g1, g2, g3, g4⟩, g5, g6, g7, g8, g9, g10, g11⟩ := hA.1
      refine ⟨?_, ?_, fun k hk => ?_, ?_⟩
      · unfold rn_T
        simpa [sw_at, ab_u] using ⟨g1, g2, g3, g4⟩
      · simp [sw_at, ab_u]
      · simp [ab_u] at hk
        by_cases e : k = a 3 0
        · subst e; simp [sw_at, ab_u]
        · simpa [sw_at, ab_u, e] using g6 k (by omega)
      · simpa [sw_at, ab_u] using ⟨g7, g8, g9, g10, g11⟩
  · rw [ab_rain_no hno] at hZ
    have h9 := hZ σ hA ra_lo.rf
    simp (disch := omega) only [b_N_rainMore_25, b_N_rainMore_22, b_N_rainMore_10, b_N_rainMore_0, e_al0, e_il1, e_c, e_i2, e_b1, e_b2, e_gi, e_gr, e_pi, e_ast, e_ir, e_dupi, e_dupr, e_cs3, e_c10, e_c1i, e_c1r, e_sh0, e_sh1, e_sh2, e_sh3, e_sh4, e_tls, e_tln, e_tl0, e_tl1, cl_82, cl_89, ln_89, tg_82_8, q_N_in, Nat.reduceAdd, true_and, and_true, true_implies, not_true_eq_false, false_implies, not_false_eq_true, imp_self, forall_const, List.append_nil, ra_I, ra_J, ra_pad, true_or, or_true, Nat.reduceEqDiff, ra_bz, eq_self, if_true, if_false, false_and, and_false, Nat.zero_le, List.cons_append, List.nil_append, Nat.reduceLT, Nat.reduceLeDiff, Nat.reduceMul, Nat.reduceSub, n_0, n_1, n_2, n_3, n_4, n_5, n_6, n_7, n_8, n_9, n_10, n_12, n_40, n_48, n_57, n_59, n_72, n_99, n_102, n_103, n_107, n_108, n_192, n_255, n_256, n_999, n_1000, n_104, nI_add, pk_mul, n_cl, n_inT, n_le, n_lt, n_eq, n_m1, n_m1', n_lem1, n_m1le, n_ltm1, n_m1lt, n_lepred, n_shl, fa_or]
    exact ⟨fun q => absurd q hno, fun _ => h9⟩
def sp_N_rain (a : Ab) (b : Bb) : ra_Sp := ra_f1 82 (fun v σ Z => rn_A a b σ ∧ ∀ σ', rn_A (ab_rain a v).1 b σ' → ra_lo σ σ' → Z (some (.int (ab_rain a v).2)) σ')
theorem q_N_rain {a : Ab} {b : Bb} {oo : Nat} {v : Int32} {σ : ra_St} {Z : ra_R} : sp_N_rain a b [.ref oo, .int v] σ Z = (oo = 82 ∧ (rn_A a b σ ∧ ∀ σ', rn_A (ab_rain a v).1 b σ' → ra_lo σ σ' → Z (some (.int (ab_rain a v).2)) σ')) := rfl
theorem k_N_rain {l : Launch} {X : ra_X} {a : Ab} {b : Bb} (hW : ab_W a) : ra_MOK l X mi_N_rain (sp_N_rain a b) := by
  refine g_N_rain (k_N_rainMore (b := b)) (sp_N_rain a b) ?_
  intro as σ Z _ _ h
  obtain ⟨v, rfl, hA, hZ⟩ := x_f1 h
  simp (disch := omega) only [b_N_rain_0, e_al0, e_il1, e_ir, e_cv2, e_hd, e_c10, e_c1i, e_c1r, e_sh0, e_sh1, e_sh2, e_sh3, e_sh4, e_tls, e_tln, e_tl0, e_tl1, cl_82, q_N_rainMore, Nat.reduceAdd, true_and, and_true, true_implies, not_true_eq_false, false_implies, not_false_eq_true, imp_self, forall_const, List.append_nil, ra_I, ra_J, ra_pad, true_or, or_true, Nat.reduceEqDiff, ra_bz, eq_self, if_true, if_false, false_and, and_false, Nat.zero_le, List.cons_append, List.nil_append, Nat.reduceLT, Nat.reduceLeDiff, Nat.reduceMul, Nat.reduceSub, n_0, n_1, n_2, n_3, n_4, n_5, n_6, n_7, n_8, n_9, n_10, n_12, n_40, n_48, n_57, n_59, n_72, n_99, n_102, n_103, n_107, n_108, n_192, n_255, n_256, n_999, n_1000, n_104, nI_add, pk_mul, n_cl, n_in, n_le, n_lt, n_eq, n_m1, n_m1', n_lem1, n_m1le, n_ltm1, n_m1lt, n_lepred, n_shl, fa_or]
  exact ⟨a, hW, hA, hZ⟩
def ab_undo (a : Ab) : Ab × Int32 := if a 3 0 = 0 then (a, -3) else (ab_u a 3 0 (a 3 0 - 1), nI (a 3 0 - 1))
def sp_N_undo (a : Ab) (b : Bb) : ra_Sp := ra_f0 82 (fun σ Z => rn_A a b σ ∧ ∀ σ', rn_A (ab_undo a).1 b σ' → ra_lo σ σ' → Z (some (.int (ab_undo a).2)) σ')
theorem q_N_undo {a : Ab} {b : Bb} {oo : Nat} {σ : ra_St} {Z : ra_R} : sp_N_undo a b [.ref oo] σ Z = (oo = 82 ∧ (rn_A a b σ ∧ ∀ σ', rn_A (ab_undo a).1 b σ' → ra_lo σ σ' → Z (some (.int (ab_undo a).2)) σ')) := rfl
theorem k_N_undo {l : Launch} {X : ra_X} {a : Ab} {b : Bb} (hW : ab_W a) : ra_MOK l X mi_N_undo (sp_N_undo a b) := by
  refine g_N_undo (sp_N_undo a b) ?_
  intro as σ Z _ _ h
  obtain ⟨rfl, hA, hZ⟩ := x_f0 h
  have w := hW.2.2.2.2.1
  unfold ab_undo at hZ
  by_cases hf : a 3 0 = 0
  · rw [if_pos hf] at hZ
    have h9 := hZ σ hA ra_lo.rf
    simp (disch := omega) only [b_N_undo_7, b_N_undo_0, e_al0, e_c, e_i2, e_b1, e_gi, e_pi, e_ir, e_dupi, e_dupr, cl_82, Nat.reduceAdd, true_and, and_true, true_implies, not_true_eq_false, false_implies, not_false_eq_true, imp_self, forall_const, List.append_nil, ra_I, ra_J, ra_pad, true_or, or_true, Nat.reduceEqDiff, ra_bz, eq_self, if_true, if_false, false_and, and_false, Nat.zero_le, List.cons_append, List.nil_append, Nat.reduceLT, Nat.reduceLeDiff, Nat.reduceMul, Nat.reduceSub, n_0, n_1, n_2, n_3, n_4, n_5, n_6, n_7, n_8, n_9, n_10, n_12, n_40, n_48, n_57, n_59, n_72, n_99, n_102, n_103, n_107, n_108, n_192, n_255, n_256, n_999, n_1000, n_104, nI_add, pk_mul, n_cl, n_inT, n_le, n_lt, n_eq, n_m1, n_m1', n_lem1, n_m1le, n_ltm1, n_m1lt, n_lepred, n_shl, fa_or, hA.1.2.1]
    exact ⟨fun _ => h9, fun q => absurd hf q⟩
  · rw [if_neg hf] at hZ
    simp (disch := omega) only [b_N_undo_10, b_N_undo_7, b_N_undo_0, e_al0, e_c, e_i2, e_b1, e_gi, e_pi, e_ir, e_dupi, e_dupr, cl_82, Nat.reduceAdd, true_and, and_true, true_implies, not_true_eq_false, false_implies, not_false_eq_true, imp_self, forall_const, List.append_nil, ra_I, ra_J, ra_pad, true_or, or_true, Nat.reduceEqDiff, ra_bz, eq_self, if_true, if_false, false_and, and_false, Nat.zero_le, List.cons_append, List.nil_append, Nat.reduceLT, Nat.reduceLeDiff, Nat.reduceMul, Nat.reduceSub, n_0, n_1, n_2, n_3, n_4, n_5, n_6, n_7, n_8, n_9, n_10, n_12, n_40, n_48, n_57, n_59, n_72, n_99, n_102, n_103, n_107, n_108, n_192, n_255, n_256, n_999, n_1000, n_104, nI_add, pk_mul, n_cl, n_inT, n_le, n_lt, n_eq, n_m1, n_m1', n_lem1, n_m1le, n_ltm1, n_m1lt, n_lepred, n_shl, fa_or, hA.1.2.1, n_sub, sw_at]
    refine ⟨fun q => absurd q hf, fun q => ?_⟩
    refine hZ _ ⟨?_, hA.2.sw (by decide) (fun q => by omega)⟩ (ra_lo.rf.sw (by decide))
    obtain ⟨⟨g1, g2, g3, g4⟩, g5, g6, g7, g8, g9, g10, g11⟩ := hA.1
    refine ⟨?_, ?_, fun k hk => ?_, ?_⟩
    · unfold rn_T
      simpa [sw_at, ab_u] using ⟨g1, g2, g3, g4⟩
    · simp [sw_at, ab_u]
    · simp [ab_u] at hk
      simpa [sw_at, ab_u] using g6 k (by omega)
    · simpa [sw_at, ab_u] using ⟨g7, g8, g9, g10, g11⟩
noncomputable def ab_set (a : Ab) (w v : Int32) : Ab × Int32 := by
  classical
  exact if w = 0 ∧ 1 ≤ v ∧ v ≤ 9 then (ab_u a 5 0 v.toNatClampNeg, nI (a 5 0)) else if w = 1 ∧ 0 ≤ v ∧ v ≤ 1 then (ab_u a 5 1 v.toNatClampNeg, nI (a 5 1)) else (a, -2)
theorem n_clof {v : Int32} (h : 0 ≤ v) : nI v.toNatClampNeg = v := by
  obtain ⟨n, h1, rfl⟩ := nI_of (fun q => (fa_of_lt q).2.1 h)
  rw [n_cl h1]
theorem n_0le {v : Int32} (h : 1 ≤ v) : 0 ≤ v := by
  rw [fa_le] at *
  have h1 : (1 : Int32).toInt = 1 := by decide
  have h0 : (0 : Int32).toInt = 0 := by decide
  omega
def sp_N_set (a : Ab) (b : Bb) : ra_Sp := ra_f2 82 (fun w v σ Z => rn_A a b σ ∧ ∀ σ', rn_A (ab_set a w v).1 b σ' → ra_lo σ σ' → Z (some (.int (ab_set a w v).2)) σ')
theorem q_N_set {a : Ab} {b : Bb} {oo : Nat} {w v : Int32} {σ : ra_St} {Z : ra_R} : sp_N_set a b [.ref oo, .int w, .int v] σ Z = (oo = 82 ∧ (rn_A a b σ ∧ ∀ σ', rn_A (ab_set a w v).1 b σ' → ra_lo σ σ' → Z (some (.int (ab_set a w v).2)) σ')) := rfl
theorem k_N_set {l : Launch} {X : ra_X} {a : Ab} {b : Bb} : ra_MOK l X mi_N_set (sp_N_set a b) := by
  refine g_N_set k_N_in (sp_N_set a b) ?_
  intro as σ Z _ _ h
  obtain ⟨w, v, rfl, hA, hZ⟩ := x_f2 h
  obtain ⟨hT, g5, g6, g7, g8, g9, g10, g11⟩ := hA.1
  by_cases h0 : w = 0
  · subst h0
    by_cases hv : 1 ≤ v ∧ v ≤ 9
    · have e : ab_set a 0 v = (ab_u a 5 0 v.toNatClampNeg, nI (a 5 0)) := by
        unfold ab_set
        exact if_pos ⟨rfl, hv⟩
      rw [e] at hZ
      simp (disch := omega) only [b_N_set_32, b_N_set_29, b_N_set_23, b_N_set_22, b_N_set_17, b_N_set_9, b_N_set_0, e_al0, e_il1, e_il2, e_il3, e_is3i, e_is3r, e_is3n, e_c, e_i2, e_b1, e_gr, e_ald, e_ast, e_ir, e_cs3, e_c10, e_c1i, e_c1r, e_sh0, e_sh1, e_sh2, e_sh3, e_sh4, e_tls, e_tln, e_tl0, e_tl1, cl_82, cl_90, ln_90, tg_82_9, q_N_in, Nat.reduceAdd, true_and, and_true, true_implies, not_true_eq_false, false_implies, not_false_eq_true, imp_self, forall_const, List.append_nil, ra_I, ra_J, ra_pad, true_or, or_true, Nat.reduceEqDiff, ra_bz, eq_self, if_true, if_false, false_and, and_false, Nat.zero_le, List.cons_append, List.nil_append, Nat.reduceLT, Nat.reduceLeDiff, Nat.reduceMul, Nat.reduceSub, n_0, n_1, n_2, n_3, n_4, n_5, n_6, n_7, n_8, n_9, n_10, n_12, n_40, n_48, n_57, n_59, n_72, n_99, n_102, n_103, n_107, n_108, n_192, n_255, n_256, n_999, n_1000, n_104, nI_add, pk_mul, n_cl, n_inT, n_le, n_lt, n_eq, n_m1, n_m1', n_lem1, n_m1le, n_ltm1, n_m1lt, n_lepred, n_shl, fa_or, g7, g8, sw_at]
      refine ⟨fun _ => hZ _ ⟨⟨?_, ?_⟩, hA.2.sw (by decide) (fun q => by omega)⟩ (ra_lo.rf.sw (by decide)), fun q => absurd hv q⟩
      · unfold rn_T at *
        simpa [sw_at, ab_u] using hT
      · simpa [sw_at, ab_u, n_clof (n_0le hv.1)] using ⟨g5, g6, g8, g9, g10, g11⟩
    · have e : ab_set a 0 v = (a, -2) := by
        unfold ab_set
        rw [if_neg (fun z => hv z.2), if_neg (fun z => absurd z.1 (by decide))]
      rw [e] at hZ
      have h9 := hZ σ hA ra_lo.rf
      simp (disch := omega) only [b_N_set_29, b_N_set_23, b_N_set_22, b_N_set_17, b_N_set_9, b_N_set_0, e_al0, e_il1, e_il2, e_il3, e_is3i, e_is3r, e_is3n, e_c, e_i2, e_b1, e_gr, e_ald, e_ast, e_ir, e_cs3, e_c10, e_c1i, e_c1r, e_sh0, e_sh1, e_sh2, e_sh3, e_sh4, e_tls, e_tln, e_tl0, e_tl1, cl_82, cl_90, ln_90, tg_82_9, q_N_in, Nat.reduceAdd, true_and, and_true, true_implies, not_true_eq_false, false_implies, not_false_eq_true, imp_self, forall_const, List.append_nil, ra_I, ra_J, ra_pad, true_or, or_true, Nat.reduceEqDiff, ra_bz, eq_self, if_true, if_false, false_and, and_false, Nat.zero_le, List.cons_append, List.nil_append, Nat.reduceLT, Nat.reduceLeDiff, Nat.reduceMul, Nat.reduceSub, n_0, n_1, n_2, n_3, n_4, n_5, n_6, n_7, n_8, n_9, n_10, n_12, n_40, n_48, n_57, n_59, n_72, n_99, n_102, n_103, n_107, n_108, n_192, n_255, n_256, n_999, n_1000, n_104, nI_add, pk_mul, n_cl, n_inT, n_le, n_lt, n_eq, n_m1, n_m1', n_lem1, n_m1le, n_ltm1, n_m1lt, n_lepred, n_shl, fa_or, g7, g8, sw_at]
      exact ⟨fun q => absurd q hv, fun _ => h9⟩
  · by_cases h1 : w = 1
    · subst h1
      by_cases hv : 0 ≤ v ∧ v ≤ 1
      · have e : ab_set a 1 v = (ab_u a 5 1 v.toNatClampNeg, nI (a 5 1)) := by
          unfold ab_set
          rw [if_neg (fun z => h0 z.1)]
          exact if_pos ⟨rfl, hv⟩
        rw [e] at hZ
        simp (disch := omega) only [b_N_set_32, b_N_set_29, b_N_set_23, b_N_set_22, b_N_set_17, b_N_set_9, b_N_set_0, e_al0, e_il1, e_il2, e_il3, e_is3i, e_is3r, e_is3n, e_c, e_i2, e_b1, e_gr, e_ald, e_ast, e_ir, e_cs3, e_c10, e_c1i, e_c1r, e_sh0, e_sh1, e_sh2, e_sh3, e_sh4, e_tls, e_tln, e_tl0, e_tl1, cl_82, cl_90, ln_90, tg_82_9, q_N_in, Nat.reduceAdd, true_and, and_true, true_implies, not_true_eq_false, false_implies, not_false_eq_true, imp_self, forall_const, List.append_nil, ra_I, ra_J, ra_pad, true_or, or_true, Nat.reduceEqDiff, ra_bz, eq_self, if_true, if_false, false_and, and_false, Nat.zero_le, List.cons_append, List.nil_append, Nat.reduceLT, Nat.reduceLeDiff, Nat.reduceMul, Nat.reduceSub, n_0, n_1, n_2, n_3, n_4, n_5, n_6, n_7, n_8, n_9, n_10, n_12, n_40, n_48, n_57, n_59, n_72, n_99, n_102, n_103, n_107, n_108, n_192, n_255, n_256, n_999, n_1000, n_104, nI_add, pk_mul, n_cl, n_inT, n_le, n_lt, n_eq, n_m1, n_m1', n_lem1, n_m1le, n_ltm1, n_m1lt, n_lepred, n_shl, fa_or, g7, g8, sw_at]
        refine ⟨fun _ => hZ _ ⟨⟨?_, ?_⟩, hA.2.sw (by decide) (fun q => by omega)⟩ (ra_lo.rf.sw (by decide)), fun q => absurd hv q⟩
        · unfold rn_T at *
          simpa [sw_at, ab_u] using hT
        · simpa [sw_at, ab_u, n_clof hv.1] using ⟨g5, g6, g7, g9, g10, g11⟩
      · have e : ab_set a 1 v = (a, -2) := by
          unfold ab_set
          rw [if_neg (fun z => h0 z.1), if_neg (fun z => hv z.2)]
        rw [e] at hZ
        have h9 := hZ σ hA ra_lo.rf
        simp (disch := omega) only [b_N_set_29, b_N_set_23, b_N_set_22, b_N_set_17, b_N_set_9, b_N_set_0, e_al0, e_il1, e_il2, e_il3, e_is3i, e_is3r, e_is3n, e_c, e_i2, e_b1, e_gr, e_ald, e_ast, e_ir, e_cs3, e_c10, e_c1i, e_c1r, e_sh0, e_sh1, e_sh2, e_sh3, e_sh4, e_tls, e_tln, e_tl0, e_tl1, cl_82, cl_90, ln_90, tg_82_9, q_N_in, Nat.reduceAdd, true_and, and_true, true_implies, not_true_eq_false, false_implies, not_false_eq_true, imp_self, forall_const, List.append_nil, ra_I, ra_J, ra_pad, true_or, or_true, Nat.reduceEqDiff, ra_bz, eq_self, if_true, if_false, false_and, and_false, Nat.zero_le, List.cons_append, List.nil_append, Nat.reduceLT, Nat.reduceLeDiff, Nat.reduceMul, Nat.reduceSub, n_0, n_1, n_2, n_3, n_4, n_5, n_6, n_7, n_8, n_9, n_10, n_12, n_40, n_48, n_57, n_59, n_72, n_99, n_102, n_103, n_107, n_108, n_192, n_255, n_256, n_999, n_1000, n_104, nI_add, pk_mul, n_cl, n_inT, n_le, n_lt, n_eq, n_m1, n_m1', n_lem1, n_m1le, n_ltm1, n_m1lt, n_lepred, n_shl, fa_or, g7, g8, sw_at]
        exact ⟨fun q => absurd q hv, fun _ => h9⟩
    · have e : ab_set a w v = (a, -2) := by
        unfold ab_set
        rw [if_neg (fun z => h0 z.1), if_neg (fun z => h1 z.1)]
      rw [e] at hZ
      have h9 := hZ σ hA ra_lo.rf
      simp (disch := omega) only [b_N_set_32, b_N_set_29, b_N_set_23, b_N_set_22, b_N_set_17, b_N_set_0, e_al0, e_il1, e_il2, e_il3, e_is3i, e_is3r, e_is3n, e_c, e_i2, e_b1, e_gr, e_ald, e_ast, e_ir, e_cs3, e_c10, e_c1i, e_c1r, e_sh0, e_sh1, e_sh2, e_sh3, e_sh4, e_tls, e_tln, e_tl0, e_tl1, cl_82, cl_90, ln_90, tg_82_9, q_N_in, Nat.reduceAdd, true_and, and_true, true_implies, not_true_eq_false, false_implies, not_false_eq_true, imp_self, forall_const, List.append_nil, ra_I, ra_J, ra_pad, true_or, or_true, Nat.reduceEqDiff, ra_bz, eq_self, if_true, if_false, false_and, and_false, Nat.zero_le, List.cons_append, List.nil_append, Nat.reduceLT, Nat.reduceLeDiff, Nat.reduceMul, Nat.reduceSub, n_0, n_1, n_2, n_3, n_4, n_5, n_6, n_7, n_8, n_9, n_10, n_12, n_40, n_48, n_57, n_59, n_72, n_99, n_102, n_103, n_107, n_108, n_192, n_255, n_256, n_999, n_1000, n_104, nI_add, pk_mul, n_cl, n_inT, n_le, n_lt, n_eq, n_m1, n_m1', n_lem1, n_m1le, n_ltm1, n_m1lt, n_lepred, n_shl, fa_or, g7, g8, sw_at]
      refine ⟨fun q => ?_, fun _ => h9⟩
      obtain ⟨n, hn, rfl⟩ := an_in_of (n := 1) q (by decide)
      rcases (show n = 0 ∨ n = 1 by omega) with rfl | rfl
      · exact absurd rfl h0
      · exact absurd rfl h1
def sp_N_isEight  : ra_Sp := ra_s1 (fun x σ Z => ra_bz (an_in x 7) Z σ)
theorem q_N_isEight  {x : Int32} {σ : ra_St} {Z : ra_R} : sp_N_isEight  [.int x] σ Z = (ra_bz (an_in x 7) Z σ) := rfl
theorem k_N_isEight {l : Launch} {X : ra_X} : ra_MOK l X mi_N_isEight sp_N_isEight := by
  refine g_N_isEight k_N_in sp_N_isEight ?_
  intro as σ Z _ _ h
  obtain ⟨x, rfl, hZ⟩ := x_s1 h
  simp (disch := omega) only [b_N_isEight_0, e_il0, e_c, e_zr, e_cs3, e_c10, e_c1i, e_c1r, e_sh0, e_sh1, e_sh2, e_sh3, e_sh4, e_tls, e_tln, e_tl0, e_tl1, q_N_in, Nat.reduceAdd, true_and, and_true, true_implies, not_true_eq_false, false_implies, not_false_eq_true, imp_self, forall_const, List.append_nil, ra_I, ra_J, ra_pad, true_or, or_true, Nat.reduceEqDiff, ra_bz, eq_self, if_true, if_false, false_and, and_false, Nat.zero_le, List.cons_append, List.nil_append, Nat.reduceLT, Nat.reduceLeDiff, Nat.reduceMul, Nat.reduceSub, n_0, n_1, n_2, n_3, n_4, n_5, n_6, n_7, n_8, n_9, n_10, n_12, n_40, n_48, n_57, n_59, n_72, n_99, n_102, n_103, n_107, n_108, n_192, n_255, n_256, n_999, n_1000, n_104, nI_add, pk_mul, n_cl, n_in, n_le, n_lt, n_eq, n_m1, n_m1', n_lem1, n_m1le, n_ltm1, n_m1lt, n_lepred, n_shl, fa_or]
  exact hZ
noncomputable def ab_wish (a : Ab) (x y v : Int32) : Ab × Int32 := by
  classical
  exact if an_in x 7 ∧ an_in y 7 ∧ an_in v 9 then (ab_u a 6 (8 * x.toNatClampNeg + y.toNatClampNeg) v.toNatClampNeg, nI (a 6 (8 * x.toNatClampNeg + y.toNatClampNeg))) else (a, -2)
def sp_N_wish (a : Ab) (b : Bb) : ra_Sp := ra_f3 82 (fun x y v σ Z => rn_A a b σ ∧ ∀ σ', rn_A (ab_wish a x y v).1 b σ' → ra_lo σ σ' → Z (some (.int (ab_wish a x y v).2)) σ')
theorem q_N_wish {a : Ab} {b : Bb} {oo : Nat} {x y v : Int32} {σ : ra_St} {Z : ra_R} : sp_N_wish a b [.ref oo, .int x, .int y, .int v] σ Z = (oo = 82 ∧ (rn_A a b σ ∧ ∀ σ', rn_A (ab_wish a x y v).1 b σ' → ra_lo σ σ' → Z (some (.int (ab_wish a x y v).2)) σ')) := rfl
theorem k_N_wish {l : Launch} {X : ra_X} {a : Ab} {b : Bb} : ra_MOK l X mi_N_wish (sp_N_wish a b) := by
  refine g_N_wish k_N_isEight k_N_in (sp_N_wish a b) ?_
  intro as σ Z _ _ h
  obtain ⟨x, y, v, rfl, hA, hZ⟩ := x_f3 h
  obtain ⟨hT, g5, g6, g7, g8, g9, g10, g11⟩ := hA.1
  by_cases hy : an_in x 7 ∧ an_in y 7 ∧ an_in v 9
  · have e : ab_wish a x y v = (ab_u a 6 (8 * x.toNatClampNeg + y.toNatClampNeg) v.toNatClampNeg, nI (a 6 (8 * x.toNatClampNeg + y.toNatClampNeg))) := by
      unfold ab_wish
      exact if_pos hy
    rw [e] at hZ
    obtain ⟨x, hx, rfl⟩ := an_in_of hy.1 (by decide)
    obtain ⟨y, hy2, rfl⟩ := an_in_of hy.2.1 (by decide)
    obtain ⟨v, hv, rfl⟩ := an_in_of hy.2.2 (by decide)
    rw [n_cl (by omega), n_cl (by omega), n_cl (by omega)] at hZ
    simp (disch := omega) only [b_N_wish_27, b_N_wish_24, b_N_wish_14, b_N_wish_7, b_N_wish_0, e_al0, e_il1, e_il2, e_il3, e_il4, e_is4i, e_is4r, e_is4n, e_c, e_i2, e_b1, e_gr, e_ald, e_ast, e_ir, e_cs3, e_cs1, e_c10, e_c1i, e_c1r, e_sh0, e_sh1, e_sh2, e_sh3, e_sh4, e_tls, e_tln, e_tl0, e_tl1, cl_82, cl_100, ln_100, tg_82_19, q_N_isEight, q_N_in, Nat.reduceAdd, true_and, and_true, true_implies, not_true_eq_false, false_implies, not_false_eq_true, imp_self, forall_const, List.append_nil, ra_I, ra_J, ra_pad, true_or, or_true, Nat.reduceEqDiff, ra_bz, eq_self, if_true, if_false, false_and, and_false, Nat.zero_le, List.cons_append, List.nil_append, Nat.reduceLT, Nat.reduceLeDiff, Nat.reduceMul, Nat.reduceSub, n_0, n_1, n_2, n_3, n_4, n_5, n_6, n_7, n_8, n_9, n_10, n_12, n_40, n_48, n_57, n_59, n_72, n_99, n_102, n_103, n_107, n_108, n_192, n_255, n_256, n_999, n_1000, n_104, nI_add, pk_mul, n_cl, n_inT, n_le, n_lt, n_eq, n_m1, n_m1', n_lem1, n_m1le, n_ltm1, n_m1lt, n_lepred, n_shl, fa_or, g9, sw_at]
    refine ⟨fun _ => ⟨fun _ => ⟨fun _ => hZ _ ⟨⟨?_, ?_⟩, hA.2.sw (by decide) (fun q => by omega)⟩ (ra_lo.rf.sw (by decide)), fun q => absurd hv q⟩, fun q => absurd hy.2.1 q⟩, fun q => absurd hy.1 q⟩
    · unfold rn_T at *
      simpa [sw_at, ab_u] using hT
    · refine ⟨by simpa [sw_at, ab_u] using g5, by simpa [sw_at, ab_u] using g6, by simpa [sw_at, ab_u] using g7, by simpa [sw_at, ab_u] using g8, fun i hi => ?_, by simpa [sw_at, ab_u] using ⟨g10, g11⟩⟩
      by_cases e : i = 8 * x + y
      · subst e; simp [sw_at, ab_u]
      · simpa [sw_at, ab_u, e] using g9 i hi
  · have e : ab_wish a x y v = (a, -2) := by
      unfold ab_wish
      exact if_neg hy
    rw [e] at hZ
    have h9 := hZ σ hA ra_lo.rf
    simp (disch := omega) only [b_N_wish_24, b_N_wish_14, b_N_wish_7, b_N_wish_0, e_al0, e_il1, e_il2, e_il3, e_il4, e_is4i, e_is4r, e_is4n, e_c, e_i2, e_b1, e_gr, e_ald, e_ast, e_ir, e_cs3, e_cs1, e_c10, e_c1i, e_c1r, e_sh0, e_sh1, e_sh2, e_sh3, e_sh4, e_tls, e_tln, e_tl0, e_tl1, cl_82, cl_100, ln_100, tg_82_19, q_N_isEight, q_N_in, Nat.reduceAdd, true_and, and_true, true_implies, not_true_eq_false, false_implies, not_false_eq_true, imp_self, forall_const, List.append_nil, ra_I, ra_J, ra_pad, true_or, or_true, Nat.reduceEqDiff, ra_bz, eq_self, if_true, if_false, false_and, and_false, Nat.zero_le, List.cons_append, List.nil_append, Nat.reduceLT, Nat.reduceLeDiff, Nat.reduceMul, Nat.reduceSub, n_0, n_1, n_2, n_3, n_4, n_5, n_6, n_7, n_8, n_9, n_10, n_12, n_40, n_48, n_57, n_59, n_72, n_99, n_102, n_103, n_107, n_108, n_192, n_255, n_256, n_999, n_1000, n_104, nI_add, pk_mul, n_cl, n_inT, n_le, n_lt, n_eq, n_m1, n_m1', n_lem1, n_m1le, n_ltm1, n_m1lt, n_lepred, n_shl, fa_or, sw_at]
    exact ⟨fun q => ⟨fun q2 => ⟨fun q3 => absurd ⟨q, q2, q3⟩ hy, fun _ => h9⟩, fun _ => h9⟩, fun _ => h9⟩
noncomputable def ab_fact (a : Ab) (x y v : Int32) : Ab × Int32 := by
  classical
  exact if an_in x 7 ∧ an_in y 7 ∧ an_in v 1 then (if a 7 0 = 12 then (a, -4) else (ab_u (ab_u (ab_u (ab_u a 8 (a 7 0) x.toNatClampNeg) 9 (a 7 0) y.toNatClampNeg) 10 (a 7 0) v.toNatClampNeg) 7 0 (a 7 0 + 1), nI (a 7 0 + 1))) else (a, -2)
def sp_N_fact (a : Ab) (b : Bb) : ra_Sp := ra_f3 82 (fun x y v σ Z => rn_A a b σ ∧ ∀ σ', rn_A (ab_fact a x y v).1 b σ' → ra_lo σ σ' → Z (some (.int (ab_fact a x y v).2)) σ')
theorem q_N_fact {a : Ab} {b : Bb} {oo : Nat} {x y v : Int32} {σ : ra_St} {Z : ra_R} : sp_N_fact a b [.ref oo, .int x, .int y, .int v] σ Z = (oo = 82 ∧ (rn_A a b σ ∧ ∀ σ', rn_A (ab_fact a x y v).1 b σ' → ra_lo σ σ' → Z (some (.int (ab_fact a x y v).2)) σ')) := rfl
theorem k_N_fact {l : Launch} {X : ra_X} {a : Ab} {b : Bb} (hW : ab_W a) : ra_MOK l X mi_N_fact (sp_N_fact a b) := by
  refine g_N_fact k_N_isEight k_N_in (sp_N_fact a b) ?_
  intro as σ Z _ _ h
  obtain ⟨x, y, v, rfl, hA, hZ⟩ := x_f3 h
  have w := hW.2.2.2.2.2.2.2.2.2.2.1
  obtain ⟨hT, g5, g6, g7, g8, g9, g10, g11⟩ := hA.1
  by_cases hy : an_in x 7 ∧ an_in y 7 ∧ an_in v 1
  · have e : ab_fact a x y v = if a 7 0 = 12 then (a, -4) else (ab_u (ab_u (ab_u (ab_u a 8 (a 7 0) x.toNatClampNeg) 9 (a 7 0) y.toNatClampNeg) 10 (a 7 0) v.toNatClampNeg) 7 0 (a 7 0 + 1), nI (a 7 0 + 1)) := by
      unfold ab_fact
      exact if_pos hy
    rw [e] at hZ
    obtain ⟨x, hx, rfl⟩ := an_in_of hy.1 (by decide)
    obtain ⟨y, hy2, rfl⟩ := an_in_of hy.2.1 (by decide)
    obtain ⟨v, hv, rfl⟩ := an_in_of hy.2.2 (by decide)
    rw [n_cl (by omega), n_cl (by omega), n_cl (by omega)] at hZ
    by_cases hf : a 7 0 = 12
    · rw [if_pos hf] at hZ
      have h9 := hZ σ hA ra_lo.rf
      simp (disch := omega) only [b_N_fact_35, b_N_fact_26, b_N_fact_23, b_N_fact_14, b_N_fact_7, b_N_fact_0, e_al0, e_il1, e_il2, e_il3, e_c, e_i2, e_b1, e_b2, e_gi, e_gr, e_pi, e_ast, e_ir, e_dupi, e_dupr, e_cs3, e_cs1, e_c10, e_c1i, e_c1r, e_sh0, e_sh1, e_sh2, e_sh3, e_sh4, e_tls, e_tln, e_tl0, e_tl1, cl_82, cl_103, ln_103, cl_104, ln_104, cl_105, ln_105, tg_82_23, tg_82_24, tg_82_25, q_N_isEight, q_N_in, Nat.reduceAdd, true_and, and_true, true_implies, not_true_eq_false, false_implies, not_false_eq_true, imp_self, forall_const, List.append_nil, ra_I, ra_J, ra_pad, true_or, or_true, Nat.reduceEqDiff, ra_bz, eq_self, if_true, if_false, false_and, and_false, Nat.zero_le, List.cons_append, List.nil_append, Nat.reduceLT, Nat.reduceLeDiff, Nat.reduceMul, Nat.reduceSub, n_0, n_1, n_2, n_3, n_4, n_5, n_6, n_7, n_8, n_9, n_10, n_12, n_40, n_48, n_57, n_59, n_72, n_99, n_102, n_103, n_107, n_108, n_192, n_255, n_256, n_999, n_1000, n_104, nI_add, pk_mul, n_cl, n_inT, n_le, n_lt, n_eq, n_m1, n_m1', n_lem1, n_m1le, n_ltm1, n_m1lt, n_lepred, n_shl, fa_or, g10, sw_at]
      exact ⟨fun _ => ⟨fun _ => ⟨fun _ => ⟨fun _ => h9, fun q => absurd hf q⟩, fun q => absurd hv q⟩, fun q => absurd hy.2.1 q⟩, fun q => absurd hy.1 q⟩
    · rw [if_neg hf] at hZ
      simp (disch := omega) only [b_N_fact_38, b_N_fact_35, b_N_fact_26, b_N_fact_23, b_N_fact_14, b_N_fact_7, b_N_fact_0, e_al0, e_il1, e_il2, e_il3, e_c, e_i2, e_b1, e_b2, e_gi, e_gr, e_pi, e_ast, e_ir, e_dupi, e_dupr, e_cs3, e_cs1, e_c10, e_c1i, e_c1r, e_sh0, e_sh1, e_sh2, e_sh3, e_sh4, e_tls, e_tln, e_tl0, e_tl1, cl_82, cl_103, ln_103, cl_104, ln_104, cl_105, ln_105, tg_82_23, tg_82_24, tg_82_25, q_N_isEight, q_N_in, Nat.reduceAdd, true_and, and_true, true_implies, not_true_eq_false, false_implies, not_false_eq_true, imp_self, forall_const, List.append_nil, ra_I, ra_J, ra_pad, true_or, or_true, Nat.reduceEqDiff, ra_bz, eq_self, if_true, if_false, false_and, and_false, Nat.zero_le, List.cons_append, List.nil_append, Nat.reduceLT, Nat.reduceLeDiff, Nat.reduceMul, Nat.reduceSub, n_0, n_1, n_2, n_3, n_4, n_5, n_6, n_7, n_8, n_9, n_10, n_12, n_40, n_48, n_57, n_59, n_72, n_99, n_102, n_103, n_107, n_108, n_192, n_255, n_256, n_999, n_1000, n_104, nI_add, pk_mul, n_cl, n_inT, n_le, n_lt, n_eq, n_m1, n_m1', n_lem1, n_m1le, n_ltm1, n_m1lt, n_lepred, n_shl, fa_or, g10, sw_at]
      refine ⟨fun _ => ⟨fun _ => ⟨fun _ => ⟨fun q => absurd q hf, fun _ => hZ _ ⟨⟨?_, ?_⟩, (((hA.2.sw (by decide) (fun q => by omega)).sw (by decide) (fun q => by omega)).sw (by decide) (fun q => by omega)).sw (by decide) (fun q => by omega)⟩ ((((ra_lo.rf.sw (by decide)).sw (by decide)).sw (by decide)).sw (by decide))⟩, fun q => absurd hv q⟩, fun q => absurd hy.2.1 q⟩, fun q => absurd hy.1 q⟩
      · unfold rn_T at *
        simpa [sw_at, ab_u] using hT
      · refine ⟨by simpa [sw_at, ab_u] using g5, by simpa [sw_at, ab_u] using g6, by simpa [sw_at, ab_u] using g7, by simpa [sw_at, ab_u] using g8, by simpa [sw_at, ab_u] using g9, by simp [sw_at, ab_u], fun k hk => ?_⟩
        simp [ab_u] at hk
        by_cases e : k = a 7 0
        · subst e; simp [sw_at, ab_u]
        · simpa [sw_at, ab_u, e] using g11 k (by omega)
  · have e : ab_fact a x y v = (a, -2) := by
      unfold ab_fact
      exact if_neg hy
    rw [e] at hZ
    have h9 := hZ σ hA ra_lo.rf
    simp (disch := omega) only [b_N_fact_38, b_N_fact_35, b_N_fact_23, b_N_fact_14, b_N_fact_7, b_N_fact_0, e_al0, e_il1, e_il2, e_il3, e_c, e_i2, e_b1, e_b2, e_gi, e_gr, e_pi, e_ast, e_ir, e_dupi, e_dupr, e_cs3, e_cs1, e_c10, e_c1i, e_c1r, e_sh0, e_sh1, e_sh2, e_sh3, e_sh4, e_tls, e_tln, e_tl0, e_tl1, cl_82, cl_103, ln_103, cl_104, ln_104, cl_105, ln_105, tg_82_23, tg_82_24, tg_82_25, q_N_isEight, q_N_in, Nat.reduceAdd, true_and, and_true, true_implies, not_true_eq_false, false_implies, not_false_eq_true, imp_self, forall_const, List.append_nil, ra_I, ra_J, ra_pad, true_or, or_true, Nat.reduceEqDiff, ra_bz, eq_self, if_true, if_false, false_and, and_false, Nat.zero_le, List.cons_append, List.nil_append, Nat.reduceLT, Nat.reduceLeDiff, Nat.reduceMul, Nat.reduceSub, n_0, n_1, n_2, n_3, n_4, n_5, n_6, n_7, n_8, n_9, n_10, n_12, n_40, n_48, n_57, n_59, n_72, n_99, n_102, n_103, n_107, n_108, n_192, n_255, n_256, n_999, n_1000, n_104, nI_add, pk_mul, n_cl, n_inT, n_le, n_lt, n_eq, n_m1, n_m1', n_lem1, n_m1le, n_ltm1, n_m1lt, n_lepred, n_shl, fa_or, sw_at]
    exact ⟨fun q => ⟨fun q2 => ⟨fun q3 => absurd ⟨q, q2, q3⟩ hy, fun _ => h9⟩, fun _ => h9⟩, fun _ => h9⟩
def ab_forget (a : Ab) : Ab × Int32 := (ab_u a 7 0 0, nI (a 7 0))
def sp_N_forget (a : Ab) (b : Bb) : ra_Sp := ra_f0 82 (fun σ Z => rn_A a b σ ∧ ∀ σ', rn_A (ab_forget a).1 b σ' → ra_lo σ σ' → Z (some (.int (ab_forget a).2)) σ')
theorem q_N_forget {a : Ab} {b : Bb} {oo : Nat} {σ : ra_St} {Z : ra_R} : sp_N_forget a b [.ref oo] σ Z = (oo = 82 ∧ (rn_A a b σ ∧ ∀ σ', rn_A (ab_forget a).1 b σ' → ra_lo σ σ' → Z (some (.int (ab_forget a).2)) σ')) := rfl
theorem k_N_forget {l : Launch} {X : ra_X} {a : Ab} {b : Bb} : ra_MOK l X mi_N_forget (sp_N_forget a b) := by
  refine g_N_forget (sp_N_forget a b) ?_
  intro as σ Z _ _ h
  obtain ⟨rfl, hA, hZ⟩ := x_f0 h
  obtain ⟨hT, g5, g6, g7, g8, g9, g10, g11⟩ := hA.1
  simp (disch := omega) only [b_N_forget_0, e_al0, e_il1, e_is1i, e_is1r, e_is1n, e_c, e_gi, e_pi, e_ir, cl_82, Nat.reduceAdd, true_and, and_true, true_implies, not_true_eq_false, false_implies, not_false_eq_true, imp_self, forall_const, List.append_nil, ra_I, ra_J, ra_pad, true_or, or_true, Nat.reduceEqDiff, ra_bz, eq_self, if_true, if_false, false_and, and_false, Nat.zero_le, List.cons_append, List.nil_append, Nat.reduceLT, Nat.reduceLeDiff, Nat.reduceMul, Nat.reduceSub, n_0, n_1, n_2, n_3, n_4, n_5, n_6, n_7, n_8, n_9, n_10, n_12, n_40, n_48, n_57, n_59, n_72, n_99, n_102, n_103, n_107, n_108, n_192, n_255, n_256, n_999, n_1000, n_104, nI_add, pk_mul, n_cl, n_inT, n_le, n_lt, n_eq, n_m1, n_m1', n_lem1, n_m1le, n_ltm1, n_m1lt, n_lepred, n_shl, fa_or, g10]
  refine hZ _ ⟨⟨?_, ?_⟩, hA.2.sw (by decide) (fun q => by omega)⟩ (ra_lo.rf.sw (by decide))
  · unfold rn_T at *
    simpa [sw_at, ab_u, ab_forget] using hT
  · simpa [sw_at, ab_u, ab_forget] using ⟨g5, g6, g7, g8, g9⟩
