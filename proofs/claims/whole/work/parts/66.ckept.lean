/-! numbers stay as they may be -/
def ab_ok (i j v : Nat) : Prop := (i = 0 → j = 0 → v ≤ 40) ∧ (i = 0 → j = 1 → v ≤ 10) ∧ (i = 1 → v < 256) ∧ (i = 2 → v < 256) ∧ (i = 3 → j = 0 → v ≤ 12) ∧ (i = 4 → v ≤ 9) ∧ (i = 5 → j = 0 → 1 ≤ v ∧ v ≤ 9) ∧ (i = 5 → j = 1 → v ≤ 1) ∧ (i = 6 → v ≤ 9) ∧ (i = 7 → j = 0 → v ≤ 12) ∧ (i = 8 → v < 8) ∧ (i = 9 → v < 8) ∧ (i = 10 → v ≤ 1)
theorem ab_W_iff {a : Ab} : ab_W a ↔ ∀ i j, ab_ok i j (a i j) := by
  constructor
  · intro h i j
    obtain ⟨h1, h2, h3, h4, h5, h6, h7, h8, h9, h10, h11, h12, h13, h14⟩ := h
    refine ⟨fun e f => ?_, fun e f => ?_, fun e => ?_, fun e => ?_, fun e f => ?_, fun e => ?_, fun e f => ?_, fun e f => ?_, fun e => ?_, fun e f => ?_, fun e => ?_, fun e => ?_, fun e => ?_⟩
    · subst e; subst f; exact h1
    · subst e; subst f; exact h2
    · subst e; exact h3 j
    · subst e; exact h4 j
    · subst e; subst f; exact h5
    · subst e; exact h6 j
    · subst e; subst f; exact ⟨h7, h8⟩
    · subst e; subst f; exact h9
    · subst e; exact h10 j
    · subst e; subst f; exact h11
    · subst e; exact h12 j
    · subst e; exact h13 j
    · subst e; exact h14 j
  · intro h
    exact ⟨(h 0 0).1 rfl rfl, (h 0 1).2.1 rfl rfl, fun i => (h 1 i).2.2.1 rfl, fun i => (h 2 i).2.2.2.1 rfl, (h 3 0).2.2.2.2.1 rfl rfl, fun i => (h 4 i).2.2.2.2.2.1 rfl, ((h 5 0).2.2.2.2.2.2.1 rfl rfl).1, ((h 5 0).2.2.2.2.2.2.1 rfl rfl).2, (h 5 1).2.2.2.2.2.2.2.1 rfl rfl, fun i => (h 6 i).2.2.2.2.2.2.2.2.1 rfl, (h 7 0).2.2.2.2.2.2.2.2.2.1 rfl rfl, fun i => (h 8 i).2.2.2.2.2.2.2.2.2.2.1 rfl, fun i => (h 9 i).2.2.2.2.2.2.2.2.2.2.2.1 rfl, fun i => (h 10 i).2.2.2.2.2.2.2.2.2.2.2.2 rfl⟩
theorem ab_u_kept {a : Ab} (hW : ab_W a) {i j v : Nat} (hv : ab_ok i j v) : ab_W (ab_u a i j v) := by
  rw [ab_W_iff] at hW ⊢
  intro p q
  unfold ab_u
  split
  · next e => rw [e.1, e.2]; exact hv
  · exact hW p q
theorem ab_undo_W {a : Ab} (hW : ab_W a) : ab_W (ab_undo a).1 := by
  have := hW.2.2.2.2.1
  unfold ab_undo
  split
  · exact hW
  · exact ab_u_kept hW (by unfold ab_ok; omega)
theorem ab_forget_W {a : Ab} (hW : ab_W a) : ab_W (ab_forget a).1 := ab_u_kept hW (by unfold ab_ok; omega)
theorem n_bnd {v : Int32} {lo hi : Nat} (h1 : nI lo ≤ v) (h2 : v ≤ nI hi) (hl : lo < 2147483648) (hh : hi < 2147483648) : lo ≤ v.toNatClampNeg ∧ v.toNatClampNeg ≤ hi := by
  have h0 : ¬ v < 0 := by
    intro q
    exact (n_neg q hl).1 h1
  obtain ⟨n, hn, rfl⟩ := nI_of h0
  rw [n_le hl hn] at h1
  rw [n_le hn hh] at h2
  rw [n_cl hn]
  exact ⟨h1, h2⟩
theorem ab_set_W {a : Ab} (hW : ab_W a) (w v : Int32) : ab_W (ab_set a w v).1 := by
  unfold ab_set
  split
  · next h =>
    have := n_bnd (lo := 1) (hi := 9) h.2.1 h.2.2 (by decide) (by decide)
    exact ab_u_kept hW (by unfold ab_ok; omega)
  · split
    · next h =>
      have := n_bnd (lo := 0) (hi := 1) h.2.1 h.2.2 (by decide) (by decide)
      exact ab_u_kept hW (by unfold ab_ok; omega)
    · exact hW
theorem an_in_bnd {v : Int32} {n : Nat} (h : an_in v n) (hn : n < 2147483648) : v.toNatClampNeg ≤ n := by
  obtain ⟨m, hm, rfl⟩ := an_in_of h hn
  rw [n_cl (by omega)]
  exact hm
theorem ab_wish_W {a : Ab} (hW : ab_W a) (x y v : Int32) : ab_W (ab_wish a x y v).1 := by
  unfold ab_wish
  split
  · next h =>
    have := an_in_bnd h.2.2 (by decide)
    exact ab_u_kept hW (by unfold ab_ok; omega)
  · exact hW
theorem ab_fact_W {a : Ab} (hW : ab_W a) (x y v : Int32) : ab_W (ab_fact a x y v).1 := by
  have h12 := hW.2.2.2.2.2.2.2.2.2.2.1
  unfold ab_fact
  split
  · next h =>
    have h1 := an_in_bnd h.1 (by decide)
    have h2 := an_in_bnd h.2.1 (by decide)
    have h3 := an_in_bnd h.2.2 (by decide)
    split
    · exact hW
    · exact ab_u_kept (ab_u_kept (ab_u_kept (ab_u_kept hW (by unfold ab_ok; omega)) (by unfold ab_ok; omega)) (by unfold ab_ok; omega)) (by unfold ab_ok; omega)
  · exact hW
theorem ab_read_W {a : Ab} (hW : ab_W a) (b : Bb) (s : Int32) : ab_W (ab_read a b s).1 := by
  unfold ab_read
  split
  · split
    · exact hW
    · exact ab_rd_W hW _ _ _
  · exact hW
theorem bb_W_same {b b' : Bb} (hB : bb_W b) (h : ∀ s, s < 4 → b' 1 s = b 1 s ∧ b' 2 s = b 2 s ∧ b' 3 s = b 3 s) : bb_W b' := by
  intro s hs
  obtain ⟨e1, e2, e3⟩ := h s hs
  rw [e1, e2, e3]
  exact hB s hs
theorem bb_u_kept {b : Bb} (hB : bb_W b) {i j : Nat} {v : Int32} (hi : i ≠ 1 ∧ i ≠ 2 ∧ i ≠ 3) : bb_W (bb_u b i j v) :=
  bb_W_same hB (fun s _ => by
    unfold bb_u
    exact ⟨if_neg (fun z => hi.1 z.1.symm), if_neg (fun z => hi.2.1 z.1.symm), if_neg (fun z => hi.2.2 z.1.symm)⟩)
theorem bb_claim_W {b : Bb} (hB : bb_W b) (x v : Int32) : bb_W (bb_claim b x v).1 := by
  unfold bb_claim
  split
  · exact bb_u_kept hB (by decide)
  · exact hB
theorem bb_sheet_W {b : Bb} (hB : bb_W b) (s f n : Int32) : bb_W (bb_sheet b s f n).1 := by
  unfold bb_sheet
  split
  · next h =>
    split
    · exact bb_u_kept hB (by decide)
    · next h0 =>
      obtain ⟨k, hk, rfl⟩ := nI_of h0
      have h48 : k ≤ 48 := by
        have := h.2.2
        rw [n_48, n_le hk (by decide)] at this
        exact this
      obtain ⟨g, hg, rfl⟩ := an_in_of h.2.1 (by decide)
      intro q hq
      unfold bb_new
      by_cases e : q = s.toNatClampNeg
      · simp [e]
        exact ⟨⟨g, hg, rfl⟩, k, h48, rfl⟩
      · simpa [e] using hB q hq
  · exact hB
theorem bb_lose_W {b : Bb} (hB : bb_W b) (s : Int32) : bb_W (bb_lose b s).1 := by
  unfold bb_lose
  split
  · split
    · exact bb_u_kept hB (by decide)
    · intro q hq
      have := hB q hq
      unfold bb_u
      by_cases e : q = s.toNatClampNeg
      · simpa [e] using this.2
      · simpa [e] using this
  · exact hB
theorem bb_put_W {b : Bb} (hB : bb_W b) (s f i v : Int32) : bb_W (bb_put b s f i v).1 := by
  unfold bb_put
  split
  · split
    · exact bb_u_kept hB (by decide)
    · exact bb_u_kept hB (by decide)
  · exact hB
theorem bb_get_W {b : Bb} (hB : bb_W b) (s f i : Int32) : bb_W (bb_get b s f i).1 := by
  unfold bb_get
  split
  · split
    · exact bb_u_kept hB (by decide)
    · exact hB
  · exact hB
theorem bb_copy_W {b : Bb} (hB : bb_W b) (s i t j n : Int32) : bb_W (bb_copy b s i t j n).1 := by
  unfold bb_copy
  split
  · split
    · exact bb_u_kept hB (by decide)
    · split
      · split
        · exact bb_u_kept hB (by decide)
        · exact bb_W_same hB (fun q _ => by simp [bb_cp])
      · exact bb_u_kept hB (by decide)
  · exact hB
theorem bb_write_W {a : Ab} {b : Bb} (hB : bb_W b) (s : Int32) : bb_W (bb_write a b s).1 := by
  unfold bb_write
  split
  · split
    · exact bb_u_kept hB (by decide)
    · exact bb_W_same hB (fun q _ => ⟨bb_wr_o _ _ _ (by decide), bb_wr_o _ _ _ (by decide), bb_wr_o _ _ _ (by decide)⟩)
  · exact hB
theorem bb_read_W {a : Ab} {b : Bb} (hB : bb_W b) (s : Int32) : bb_W (ab_read a b s).2.1 := by
  unfold ab_read
  split
  · split
    · exact bb_u_kept hB (by decide)
    · exact hB
  · exact hB
