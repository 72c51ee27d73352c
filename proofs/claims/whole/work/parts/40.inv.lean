/-! the class: what holds between calls -/
/-- cells and slots that may change -/
def ra_fs (cs : List Nat) (ss : List (Nat × Nat)) (σ σ' : ra_St) : Prop := ∀ c j, c ∉ cs → (c, j) ∉ ss → σ' c j = σ c j
theorem ra_fs.rf {cs : List Nat} {ss : List (Nat × Nat)} {σ : ra_St} : ra_fs cs ss σ σ := fun _ _ _ _ => rfl
theorem ra_fs.tr {cs cs' : List Nat} {ss ss' : List (Nat × Nat)} {σ σ' σ'' : ra_St} (h : ra_fs cs ss σ σ') (h2 : ra_fs cs' ss' σ' σ'') (hs : ∀ c ∈ cs', c ∈ cs) (ht : ∀ p ∈ ss', p.1 ∈ cs ∨ p ∈ ss) : ra_fs cs ss σ σ'' :=
  fun c j hc hj => (h2 c j (fun q => hc (hs c q)) (fun q => (ht _ q).elim hc hj)).trans (h c j hc hj)
theorem ra_fs.mono {cs cs' : List Nat} {ss ss' : List (Nat × Nat)} {σ σ' : ra_St} (h : ra_fs cs ss σ σ') (hs : ∀ c ∈ cs, c ∈ cs') (ht : ∀ p ∈ ss, p.1 ∈ cs' ∨ p ∈ ss') : ra_fs cs' ss' σ σ' :=
  fun c j hc hj => h c j (fun q => hc (hs c q)) (fun q => (ht _ q).elim hc hj)
theorem ra_fs.sw {cs : List Nat} {ss : List (Nat × Nat)} {σ σ' : ra_St} {c i : Nat} {v : Int32} (h : ra_fs cs ss σ σ') (hc : c ∈ cs ∨ (c, i) ∈ ss) : ra_fs cs ss σ (ra_sw σ' c i v) := by
  intro d j hd hj
  rw [sw_at]
  split
  · next e =>
    subst e
    split
    · next e2 =>
      subst e2
      exact absurd (hc.resolve_left hd) hj
    · exact h d j hd hj
  · exact h d j hd hj
theorem ra_fa.fs {cs : List Nat} {σ σ' : ra_St} (h : ra_fa cs σ σ') : ra_fs cs [] σ σ' := fun c _ hc _ => congrFun (h c hc) _
def ra_dj (cells : List Nat) (slots : List (Nat × Nat)) (cs : List Nat) (ss : List (Nat × Nat)) : Bool := (cells.all fun c => !cs.contains c && ss.all fun p => p.1 != c) && slots.all fun q => !cs.contains q.1 && !ss.contains q
theorem ra_fs.cell {cs cells : List Nat} {ss slots : List (Nat × Nat)} {σ σ' : ra_St} (h : ra_fs cs ss σ σ') (hd : ra_dj cells slots cs ss = true) {c : Nat} (hc : c ∈ cells) : σ' c = σ c := by
  unfold ra_dj at hd
  rw [Bool.and_eq_true, List.all_eq_true] at hd
  have h1 := hd.1 c hc
  rw [Bool.and_eq_true, List.all_eq_true] at h1
  funext j
  refine h c j ?_ ?_
  · simpa using h1.1
  · intro q
    have := h1.2 _ q
    simp at this
theorem ra_fs.slot {cs cells : List Nat} {ss slots : List (Nat × Nat)} {σ σ' : ra_St} (h : ra_fs cs ss σ σ') (hd : ra_dj cells slots cs ss = true) {c j : Nat} (hc : (c, j) ∈ slots) : σ' c j = σ c j := by
  unfold ra_dj at hd
  rw [Bool.and_eq_true, List.all_eq_true, List.all_eq_true] at hd
  have h1 := hd.2 _ hc
  rw [Bool.and_eq_true] at h1
  exact h c j (by simpa using h1.1) (by simpa using h1.2)
theorem ra_fs.hi {cs : List Nat} {ss : List (Nat × Nat)} {σ σ' : ra_St} (h : ra_fs cs ss σ σ') (hd : ((cs.all fun c => decide (c < 82)) && (ss.all fun p => decide (p.1 < 82))) = true) : ∀ c, 82 ≤ c → σ' c = σ c := by
  rw [Bool.and_eq_true, List.all_eq_true, List.all_eq_true] at hd
  intro c hc
  funext j
  refine h c j (fun q => ?_) (fun q => ?_)
  · have := hd.1 c q
    simp at this
    omega
  · have := hd.2 _ q
    simp at this
    omega
theorem rc_V.fs {a : Ab} {cs : List Nat} {ss : List (Nat × Nat)} {σ σ' : ra_St} (h : rc_V a σ) (hf : ra_fs cs ss σ σ') (hd : ra_dj [2, 3, 4, 5, 6, 7, 8, 9, 10, 11] [(1, 8), (1, 9), (1, 10)] cs ss = true) : rc_V a σ' := by
  unfold rc_V rc_T rc_H
  rw [hf.cell hd (c := 2) (by decide), hf.cell hd (c := 3) (by decide), hf.cell hd (c := 4) (by decide), hf.cell hd (c := 5) (by decide), hf.cell hd (c := 6) (by decide), hf.cell hd (c := 7) (by decide), hf.cell hd (c := 8) (by decide), hf.cell hd (c := 9) (by decide), hf.cell hd (c := 10) (by decide), hf.cell hd (c := 11) (by decide), hf.slot hd (c := 1) (j := 8) (by decide), hf.slot hd (c := 1) (j := 9) (by decide), hf.slot hd (c := 1) (j := 10) (by decide)]
  exact h
/-- weather -/
def rc_W (a : Ab) (σ : ra_St) : Prop := σ 12 1 = nI (a 3 0) ∧ (∀ k, k < a 3 0 → σ 13 k = nI (a 4 k)) ∧ σ 12 2 = nI (a 5 0) ∧ σ 12 3 = nI (a 5 1)
theorem rc_W.fs {a : Ab} {cs : List Nat} {ss : List (Nat × Nat)} {σ σ' : ra_St} (h : rc_W a σ) (hf : ra_fs cs ss σ σ') (hd : ra_dj [13] [(12, 1), (12, 2), (12, 3)] cs ss = true) : rc_W a σ' := by
  unfold rc_W
  rw [hf.cell hd (c := 13) (by decide), hf.slot hd (c := 12) (j := 1) (by decide), hf.slot hd (c := 12) (j := 2) (by decide), hf.slot hd (c := 12) (j := 3) (by decide)]
  exact h
/-- wishes -/
def rc_X (a : Ab) (σ : ra_St) : Prop := ∀ h r, h < 8 → r < 8 → σ (43 + h) r = nI (a 6 (8 * h + r))
theorem rc_X.fs {a : Ab} {cs : List Nat} {ss : List (Nat × Nat)} {σ σ' : ra_St} (h : rc_X a σ) (hf : ra_fs cs ss σ σ') (hd : ra_dj [43, 44, 45, 46, 47, 48, 49, 50] [] cs ss = true) : rc_X a σ' := by
  intro i r hi hr
  rw [hf.cell hd (c := 43 + i) (by simp; omega)]
  exact h i r hi hr
/-- facts -/
def rc_K (a : Ab) (σ : ra_St) : Prop := σ 54 8 = nI (a 7 0) ∧ ∀ k, k < a 7 0 → σ 55 k = nI (a 8 k) ∧ σ 56 k = nI (a 9 k) ∧ σ 57 k = nI (a 10 k)
theorem rc_K.fs {a : Ab} {cs : List Nat} {ss : List (Nat × Nat)} {σ σ' : ra_St} (h : rc_K a σ) (hf : ra_fs cs ss σ σ') (hd : ra_dj [55, 56, 57] [(54, 8)] cs ss = true) : rc_K a σ' := by
  unfold rc_K
  rw [hf.cell hd (c := 55) (by decide), hf.cell hd (c := 56) (by decide), hf.cell hd (c := 57) (by decide), hf.slot hd (c := 54) (j := 8) (by decide)]
  exact h
/-- claims, the finding, sheets -/
def rc_C (b : Bb) (σ : ra_St) : Prop := (∀ h, h < 8 → σ 72 h = b 0 h) ∧ σ 0 9 = b 5 0 ∧ ∀ s, s < 4 → (b 1 s = 0 → σ (74 + 2 * s) 1 = 1) ∧ (b 1 s = 1 → σ (74 + 2 * s) 1 = 0 ∧ σ (74 + 2 * s) 2 = b 2 s ∧ σ (74 + 2 * s) 3 = b 3 s ∧ ∀ i, i < (b 3 s).toNatClampNeg → σ (75 + 2 * s) i = b 4 (48 * s + i))
theorem rc_C.fs {b : Bb} {cs : List Nat} {ss : List (Nat × Nat)} {σ σ' : ra_St} (h : rc_C b σ) (hf : ra_fs cs ss σ σ') (hd : ra_dj [72, 74, 75, 76, 77, 78, 79, 80, 81] [(0, 9)] cs ss = true) : rc_C b σ' := by
  unfold rc_C
  rw [hf.cell hd (c := 72) (by decide), hf.slot hd (c := 0) (j := 9) (by decide)]
  refine ⟨h.1, h.2.1, fun s hs => ?_⟩
  rw [hf.cell hd (c := 74 + 2 * s) (by simp; omega), hf.cell hd (c := 75 + 2 * s) (by simp; omega)]
  exact h.2.2 s hs
/-- counters of changes: texts, weather, wishes, facts -/
def rc_N (v w e k : Nat) (σ : ra_St) : Prop := σ 1 11 = nI v ∧ σ 12 4 = nI w ∧ σ 41 8 = nI e ∧ σ 54 10 = nI k
theorem rc_N.fs {v w e k : Nat} {cs : List Nat} {ss : List (Nat × Nat)} {σ σ' : ra_St} (h : rc_N v w e k σ) (hf : ra_fs cs ss σ σ') (hd : ra_dj [] [(1, 11), (12, 4), (41, 8), (54, 10)] cs ss = true) : rc_N v w e k σ' := by
  unfold rc_N
  rw [hf.slot hd (c := 1) (j := 11) (by decide), hf.slot hd (c := 12) (j := 4) (by decide), hf.slot hd (c := 41) (j := 8) (by decide), hf.slot hd (c := 54) (j := 10) (by decide)]
  exact h
/-- a stamp: what hangs on it holds if it is of now -/
def rc_st (st : Int32) (now : Nat) (P : Prop) : Prop := st = -1 ∨ ∃ s : Nat, s ≤ now ∧ st = nI s ∧ (s = now → P)
theorem rc_st.more {st : Int32} {now now' : Nat} {P P' : Prop} (h : rc_st st now P) (hn : now < now') : rc_st st now' P' := by
  rcases h with h | ⟨s, h1, h2, -⟩
  · exact Or.inl h
  · exact Or.inr ⟨s, by omega, h2, fun q => by omega⟩
theorem rc_st.now {now : Nat} {P : Prop} (h : P) : rc_st (nI now) now P := Or.inr ⟨now, Nat.le_refl _, rfl, fun _ => h⟩
theorem rc_st.yes {st : Int32} {now : Nat} {P : Prop} (h : rc_st st now P) (hn : now < 2147483648) (e : st = nI now) : P := by
  rcases h with h | ⟨s, h1, h2, h3⟩
  · rw [e] at h
    have h4 : (nI now = -nI 1) = False := n_m1 hn
    exact (h4 ▸ h : False).elim
  · rw [h2, n_eq (by omega) hn] at e
    exact h3 e
theorem rc_st.imp {st : Int32} {now : Nat} {P P' : Prop} (h : rc_st st now P) (hi : P → P') : rc_st st now P' := by
  rcases h with h | ⟨s, h1, h2, h3⟩
  · exact Or.inl h
  · exact Or.inr ⟨s, h1, h2, fun q => hi (h3 q)⟩
def rs_S (a : Ab) (σ : ra_St) : Prop := ∀ w k h, w < 4 → k ≤ a 3 0 → h < ab_hc a → σ (24 + w) (8 * k + h) = nI (sm_g (sm a (ab_te a) k) w h)
def rs_M (a : Ab) (σ : ra_St) : Prop := ∀ h, h < ab_hc a → σ 37 h = -1 ∨ ∃ m : Nat, m ≤ 99 ∧ σ 37 h = nI m ∧ n_pop (ab_ring a h) ≤ 5 ∧ σ 38 h = an_dr a h m 0 ∧ σ 39 h = an_dr a h m 1
def rs_X (a : Ab) (σ : ra_St) : Prop := σ 41 5 = an_mk a (-1) ∧ σ 41 6 = an_mk a (-2) ∧ ∀ h, h < ab_hc a → σ 51 h = an_mk a (nI h)
def rs_B (a : Ab) (σ : ra_St) : Prop := σ 41 7 = an_be a (-1) ∧ ∀ h, h < ab_hc a → σ 52 h = an_be a (nI h)
def rs_K (a : Ab) (σ : ra_St) : Prop := σ 54 9 = nI (kT a) ∧ ∀ h r, h < ab_hc a → r < ab_hc a → σ (62 + h) r = nI (kW a (nI h) (nI r))
def rc_S (a : Ab) (now : Nat) (σ : ra_St) : Prop := rc_st (σ 14 4) now (rs_S a σ)
def rc_M (a : Ab) (now : Nat) (σ : ra_St) : Prop := rc_st (σ 28 7) now (rs_M a σ)
def rc_Y (a : Ab) (now : Nat) (σ : ra_St) : Prop := rc_st (σ 41 9) now (rs_X a σ)
def rc_B (a : Ab) (now : Nat) (σ : ra_St) : Prop := rc_st (σ 41 10) now (rs_B a σ)
def rc_J (a : Ab) (now : Nat) (σ : ra_St) : Prop := rc_st (σ 54 11) now (rs_K a σ)
theorem rc_S.fs {a : Ab} {now : Nat} {cs : List Nat} {ss : List (Nat × Nat)} {σ σ' : ra_St} (h : rc_S a now σ) (hf : ra_fs cs ss σ σ') (hd : ra_dj [24, 25, 26, 27] [(14, 4)] cs ss = true) : rc_S a now σ' := by
  unfold rc_S at *
  rw [hf.slot hd (c := 14) (j := 4) (by decide)]
  refine h.imp (fun q w k i hw hk hi => ?_)
  rw [hf.cell hd (c := 24 + w) (by simp; omega)]
  exact q w k i hw hk hi
theorem rc_M.fs {a : Ab} {now : Nat} {cs : List Nat} {ss : List (Nat × Nat)} {σ σ' : ra_St} (h : rc_M a now σ) (hf : ra_fs cs ss σ σ') (hd : ra_dj [37, 38, 39] [(28, 7)] cs ss = true) : rc_M a now σ' := by
  unfold rc_M at *
  rw [hf.slot hd (c := 28) (j := 7) (by decide)]
  refine h.imp (fun q => ?_)
  unfold rs_M
  rw [hf.cell hd (c := 37) (by decide), hf.cell hd (c := 38) (by decide), hf.cell hd (c := 39) (by decide)]
  exact q
theorem rc_Y.fs {a : Ab} {now : Nat} {cs : List Nat} {ss : List (Nat × Nat)} {σ σ' : ra_St} (h : rc_Y a now σ) (hf : ra_fs cs ss σ σ') (hd : ra_dj [51] [(41, 5), (41, 6), (41, 9)] cs ss = true) : rc_Y a now σ' := by
  unfold rc_Y at *
  rw [hf.slot hd (c := 41) (j := 9) (by decide)]
  refine h.imp (fun q => ?_)
  unfold rs_X
  rw [hf.cell hd (c := 51) (by decide), hf.slot hd (c := 41) (j := 5) (by decide), hf.slot hd (c := 41) (j := 6) (by decide)]
  exact q
theorem rc_B.fs {a : Ab} {now : Nat} {cs : List Nat} {ss : List (Nat × Nat)} {σ σ' : ra_St} (h : rc_B a now σ) (hf : ra_fs cs ss σ σ') (hd : ra_dj [52] [(41, 7), (41, 10)] cs ss = true) : rc_B a now σ' := by
  unfold rc_B at *
  rw [hf.slot hd (c := 41) (j := 10) (by decide)]
  refine h.imp (fun q => ?_)
  unfold rs_B
  rw [hf.cell hd (c := 52) (by decide), hf.slot hd (c := 41) (j := 7) (by decide)]
  exact q
theorem rc_J.fs {a : Ab} {now : Nat} {cs : List Nat} {ss : List (Nat × Nat)} {σ σ' : ra_St} (h : rc_J a now σ) (hf : ra_fs cs ss σ σ') (hd : ra_dj [62, 63, 64, 65, 66, 67, 68, 69] [(54, 9), (54, 11)] cs ss = true) : rc_J a now σ' := by
  have h8 := ab_hc_8 a
  unfold rc_J at *
  rw [hf.slot hd (c := 54) (j := 11) (by decide)]
  refine h.imp (fun q => ?_)
  unfold rs_K
  rw [hf.slot hd (c := 54) (j := 9) (by decide)]
  refine ⟨q.1, fun i r hi hr => ?_⟩
  rw [hf.cell hd (c := 62 + i) (by simp; omega)]
  exact q.2 i r hi hr
/-- all of it, behind n calls -/
def rc_I (a : Ab) (b : Bb) (n : Nat) (σ : ra_St) : Prop := rc_V a σ ∧ rc_W a σ ∧ rc_X a σ ∧ rc_K a σ ∧ rc_C b σ ∧ ∃ v w e k : Nat, v + w + e + k ≤ 2 * n + a 3 0 ∧ rc_N v w e k σ ∧ rc_S a (v + w) σ ∧ rc_M a (v + w) σ ∧ rc_Y a (v + e) σ ∧ rc_B a (v + e) σ ∧ rc_J a (v + k) σ
def ra_up (σ σ' : ra_St) : Prop := ∀ c, 82 ≤ c → σ' c = σ c
theorem ra_up.rf {σ : ra_St} : ra_up σ σ := fun _ _ => rfl
theorem ra_up.tr {σ σ' σ'' : ra_St} (h : ra_up σ σ') (h2 : ra_up σ' σ'') : ra_up σ σ'' := fun c hc => (h2 c hc).trans (h c hc)
theorem rc_I.more {a : Ab} {b : Bb} {n n' : Nat} {σ : ra_St} (h : rc_I a b n σ) (hn : n ≤ n') : rc_I a b n' σ := by
  obtain ⟨h1, h2, h3, h4, h5, v, w, e, k, h6, h7⟩ := h
  exact ⟨h1, h2, h3, h4, h5, v, w, e, k, by omega, h7⟩
/-! what each answer hangs on -/
section LOCAL
variable {a a' : Ab}
theorem lc_hc (e0 : a' 0 = a 0) (e1 : a' 1 = a 1) : ab_hc a' = ab_hc a := by
  have e : ab_bad a' = ab_bad a := by
    funext p
    unfold ab_bad ab_fit
    rw [e1]
  unfold ab_hc ab_hj
  rw [e, e0]
theorem lc_hs (e1 : a' 1 = a 1) : ab_tl a' = ab_tl a ∧ ab_pu a' = ab_pu a ∧ ab_te a' = ab_te a := by
  refine ⟨?_, ?_, ?_⟩ <;> funext h
  · unfold ab_tl; rw [e1]
  · unfold ab_pu; rw [e1]
  · unfold ab_te; rw [e1]
theorem lc_tb (e2 : a' 2 = a 2) : ∀ k, ab_tb a' k = ab_tb a k
  | 0 => rfl
  | k + 1 => by rw [ab_tb, ab_tb, lc_tb e2 k, e2]
theorem lc_lj (e0 : a' 0 = a 0) (e1 : a' 1 = a 1) (e2 : a' 2 = a 2) : ab_lj a' = ab_lj a := by
  have e : ab_lbad a' = ab_lbad a := by
    funext k
    unfold ab_lbad
    rw [lc_tb e2, lc_hc e0 e1, e2]
  unfold ab_lj
  rw [e, e0]
theorem lc_ow (e0 : a' 0 = a 0) (e1 : a' 1 = a 1) (e2 : a' 2 = a 2) : ab_ow a' = ab_ow a := by
  funext h
  unfold ab_ow
  rw [lc_lj e0 e1 e2, lc_hc e0 e1, e0, e2]
theorem lc_on (e0 : a' 0 = a 0) (e1 : a' 1 = a 1) (e2 : a' 2 = a 2) : ab_on a' = ab_on a := by
  funext h
  unfold ab_on
  rw [lc_ow e0 e1 e2, lc_hc e0 e1]
theorem lc_rg (e0 : a' 0 = a 0) (e1 : a' 1 = a 1) (e2 : a' 2 = a 2) : ∀ f b x, ab_rg a' f b x = ab_rg a f b x
  | 0, _, _ => rfl
  | f + 1, b, x => by rw [ab_rg, ab_rg, lc_ow e0 e1 e2, lc_rg e0 e1 e2 f]
theorem lc_ring (e0 : a' 0 = a 0) (e1 : a' 1 = a 1) (e2 : a' 2 = a 2) : ab_ring a' = ab_ring a := by
  funext h
  unfold ab_ring
  rw [lc_hc e0 e1, lc_rg e0 e1 e2]
theorem lc_V {σ : ra_St} (e0 : a' 0 = a 0) (e1 : a' 1 = a 1) (e2 : a' 2 = a 2) (h : rc_V a σ) : rc_V a' σ := by
  have e3 : ab_hf a' = ab_hf a := by
    have e : ab_bad a' = ab_bad a := by
      funext p
      unfold ab_bad ab_fit
      rw [e1]
    unfold ab_hf ab_hj
    rw [e, e0]
  have e4 : ab_lf a' = ab_lf a := by
    unfold ab_lf
    rw [lc_lj e0 e1 e2, lc_hc e0 e1, e0]
  obtain ⟨k1, k2, k3⟩ := lc_hs e1
  unfold rc_V rc_T rc_H
  rw [e0, e1, e2, e3, e4, k1, k2, k3, lc_hc e0 e1, lc_ow e0 e1 e2, lc_on e0 e1 e2, lc_ring e0 e1 e2]
  exact h
theorem lc_sm (e0 : a' 0 = a 0) (e1 : a' 1 = a 1) (e2 : a' 2 = a 2) (e4 : a' 4 = a 4) (e5 : a' 5 = a 5) (te : Nat → Nat) : ∀ k, sm a' te k = sm a te k
  | 0 => by
    obtain ⟨k1, k2, k3⟩ := lc_hs e1
    rw [sm, sm, k1, k2]
  | k + 1 => by
    have e : sm_lay a' te = sm_lay a te := by
      funext s m r
      unfold sm_lay
      rw [lc_on e0 e1 e2, e5]
    rw [sm, sm, lc_sm e0 e1 e2 e4 e5 te k, e4]
    unfold sm_step
    rw [e, e5, lc_ow e0 e1 e2]
theorem lc_S {σ : ra_St} {now : Nat} (e : ∀ i, i < 6 → a' i = a i) (h : rc_S a now σ) : rc_S a' now σ := by
  refine h.imp (fun q w k i hw hk hi => ?_)
  rw [e 3 (by decide)] at hk
  rw [lc_hc (e 0 (by decide)) (e 1 (by decide))] at hi
  rw [lc_sm (e 0 (by decide)) (e 1 (by decide)) (e 2 (by decide)) (e 4 (by decide)) (e 5 (by decide)), (lc_hs (e 1 (by decide))).2.2]
  exact q w k i hw hk hi
theorem lc_dr (e : ∀ i, i < 6 → a' i = a i) : an_dr a' = an_dr a := by
  have e1 := e 0 (by decide)
  have e2 := e 1 (by decide)
  have e3 := e 2 (by decide)
  have et : dr_te a' = dr_te a := by
    funext b c h
    unfold dr_te
    rw [lc_hc e1 e2, (lc_hs e2).2.2]
  have eo : dr_ok a' = dr_ok a := by
    funext b m c
    unfold dr_ok
    simp only [et, lc_hc e1 e2, lc_sm e1 e2 e3 (e 4 (by decide)) (e 5 (by decide)), e 3 (by decide)]
  funext n m w
  unfold an_dr
  rw [lc_ring e1 e2 e3, eo]
theorem lc_M {σ : ra_St} {now : Nat} (e : ∀ i, i < 6 → a' i = a i) (h : rc_M a now σ) : rc_M a' now σ := by
  refine h.imp (fun q => ?_)
  unfold rs_M
  rw [lc_dr e, lc_hc (e 0 (by decide)) (e 1 (by decide)), lc_ring (e 0 (by decide)) (e 1 (by decide)) (e 2 (by decide))]
  exact q
theorem lc_run (e0 : a' 0 = a 0) (e1 : a' 1 = a 1) (e6 : a' 6 = a 6) : ∀ n f, mk_run a' n f = mk_run a n f
  | 0, _ => rfl
  | n + 1, f => by
    have e : mk_p a' = mk_p a := by
      funext g p
      apply Bool.eq_iff_iff.mpr
      rw [mk_p_iff, mk_p_iff]
      unfold mk_want mk_w
      rw [lc_hc e0 e1, e6]
    rw [mk_run, mk_run, e, lc_run e0 e1 e6 n]
theorem lc_Y {σ : ra_St} {now : Nat} (e0 : a' 0 = a 0) (e1 : a' 1 = a 1) (e2 : a' 2 = a 2) (e6 : a' 6 = a 6) (h : rc_Y a now σ) : rc_Y a' now σ := by
  refine h.imp (fun q => ?_)
  have e : an_mk a' = an_mk a := by
    funext x
    unfold an_mk mk_end mk_pot mk_w
    rw [lc_ow e0 e1 e2, lc_run e0 e1 e6, lc_hc e0 e1, e6]
  unfold rs_X
  rw [e, lc_hc e0 e1]
  exact q
theorem lc_bv (e0 : a' 0 = a 0) (e1 : a' 1 = a 1) (e6 : a' 6 = a 6) : ∀ n s, bv a' n s = bv a n s
  | 0, _ => rfl
  | n + 1, s => by
    rw [bv, bv]
    unfold mk_w
    simp only [lc_bv e0 e1 e6 n, lc_hc e0 e1, e6]
theorem lc_bV (e0 : a' 0 = a 0) (e1 : a' 1 = a 1) (e6 : a' 6 = a 6) : bV a' = bV a := by
  funext s
  unfold bV
  rw [lc_bv e0 e1 e6, lc_hc e0 e1]
theorem lc_bS (e0 : a' 0 = a 0) (e1 : a' 1 = a 1) (e6 : a' 6 = a 6) : ∀ h, bS a' h = bS a h
  | 0 => rfl
  | h + 1 => by
    rw [bS, bS, lc_bS e0 e1 e6 h, lc_bV e0 e1 e6, lc_hc e0 e1]
    unfold mk_w
    rw [e6]
theorem lc_B {σ : ra_St} {now : Nat} (e0 : a' 0 = a 0) (e1 : a' 1 = a 1) (e6 : a' 6 = a 6) (h : rc_B a now σ) : rc_B a' now σ := by
  refine h.imp (fun q => ?_)
  have e : an_be a' = an_be a := by
    funext x
    unfold an_be bR mk_w
    rw [lc_bV e0 e1 e6, lc_bS e0 e1 e6, lc_hc e0 e1, e6]
  unfold rs_B
  rw [e, lc_hc e0 e1]
  exact q
theorem lc_may (e0 : a' 0 = a 0) (e1 : a' 1 = a 1) (e8 : a' 8 = a 8) (e9 : a' 9 = a 9) (e10 : a' 10 = a 10) : ∀ k h, ab_may a' k h = ab_may a k h
  | 0, _ => by rw [ab_may, ab_may, lc_hc e0 e1]
  | k + 1, h => by rw [ab_may, ab_may, lc_may e0 e1 e8 e9 e10 k h, lc_hc e0 e1, e8, e9, e10]
theorem lc_J {σ : ra_St} {now : Nat} (e0 : a' 0 = a 0) (e1 : a' 1 = a 1) (e7 : a' 7 = a 7) (e8 : a' 8 = a 8) (e9 : a' 9 = a 9) (e10 : a' 10 = a 10) (h : rc_J a now σ) : rc_J a' now σ := by
  refine h.imp (fun q => ?_)
  have ec : kc a' = kc a := by
    funext x y h r
    unfold kc
    rw [e7, lc_may e0 e1 e8 e9 e10]
  have eW : kW a' = kW a := by
    funext x y
    unfold kW
    rw [ec, lc_hc e0 e1]
  have eT : kT a' = kT a := by
    unfold kT
    rw [eW, lc_hc e0 e1, e7, e10]
  unfold rs_K
  rw [eT, eW, lc_hc e0 e1]
  exact q
end LOCAL
