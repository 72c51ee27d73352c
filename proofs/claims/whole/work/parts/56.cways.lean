/-! ways to own roofs: from behind, from ahead, and across a cut -/
theorem fb_sm_comm (F : Nat → Nat → Nat) (m : Nat) : ∀ n, fb_sm (fun i => fb_sm (fun j => F i j) m) n = fb_sm (fun j => fb_sm (fun i => F i j) n) m
  | 0 => by
    show 0 = fb_sm (fun _ => 0) m
    rw [fb_sm_const, Nat.mul_zero]
  | n + 1 => by
    rw [fb_sm_succ, fb_sm_comm F m n, ← fb_sm_add]
    rfl
theorem fb_sm_mul (x : Nat) (f : Nat → Nat) : ∀ n, fb_sm (fun k => x * f k) n = x * fb_sm f n
  | 0 => rfl
  | n + 1 => by rw [fb_sm_succ, fb_sm_succ, fb_sm_mul x f n, Nat.mul_add]
theorem fb_sm_nul {f : Nat → Nat} {n : Nat} (h : ∀ k, k < n → f k = 0) : fb_sm f n = 0 := by
  rw [fb_sm_cong (g := fun _ => 0) h, fb_sm_const, Nat.mul_zero]
theorem fb_sm_one {f : Nat → Nat} {n i : Nat} (hi : i < n) (h : ∀ k, k < n → k ≠ i → f k = 0) : fb_sm f n = f i := by
  have h1 := fb_sm_upd (fun _ => 0) (f i) hi
  rw [fb_sm_const, Nat.mul_zero] at h1
  rw [fb_sm_cong (g := fun k => if k = i then f i else 0) (fun k hk => ?_)]
  · simpa using h1
  · show f k = if k = i then f i else 0
    split
    · next e => rw [e]
    · next e => exact h k hk e
theorem two_xor {N k : Nat} (h : k < 2 ^ N) : 2 ^ N + k = k ^^^ 2 ^ N := by
  have e := Nat.two_pow_add_eq_or_of_lt h 1
  rw [Nat.mul_one] at e
  rw [e]
  apply Nat.eq_of_testBit_eq
  intro i
  rw [Nat.testBit_or, fb_bit_flip, Nat.testBit_two_pow]
  by_cases q : i = N
  · subst q
    rw [Nat.testBit_lt_two_pow h]
    simp
  · have q2 : ¬ N = i := fun z => q z.symm
    simp [q, q2]
theorem xor_lt {N k r : Nat} (h : k < 2 ^ N) (hr : r < N) : k ^^^ 2 ^ r < 2 ^ N := Nat.xor_lt_two_pow h (Nat.pow_lt_pow_right (by decide) hr)
theorem xor_xor (k b : Nat) : k ^^^ b ^^^ b = k := by rw [Nat.xor_assoc, Nat.xor_self, Nat.xor_zero]
theorem fb_sm_flip {r : Nat} : ∀ (N : Nat), r < N → ∀ F : Nat → Nat, fb_sm (fun t => F (t ^^^ 2 ^ r)) (2 ^ N) = fb_sm F (2 ^ N)
  | 0, h, _ => by omega
  | N + 1, h, F => by
    have e2 : 2 ^ (N + 1) = 2 ^ N + 2 ^ N := by rw [Nat.pow_succ]; omega
    rw [e2, fb_sm_split, fb_sm_split]
    rcases (show r < N ∨ r = N by omega) with q | rfl
    · rw [fb_sm_flip N q F]
      congr 1
      have ih := fb_sm_flip N q (fun k => F (2 ^ N + k))
      rw [← ih]
      refine fb_sm_cong (fun k hk => ?_)
      show F ((2 ^ N + k) ^^^ 2 ^ r) = F (2 ^ N + (k ^^^ 2 ^ r))
      rw [two_xor hk, two_xor (xor_lt hk q), Nat.xor_assoc, Nat.xor_assoc, Nat.xor_comm (2 ^ N)]
    · rw [Nat.add_comm]
      congr 1
      · refine fb_sm_cong (fun k hk => ?_)
        show F ((2 ^ r + k) ^^^ 2 ^ r) = F k
        rw [two_xor hk, xor_xor]
      · refine fb_sm_cong (fun k hk => ?_)
        show F (k ^^^ 2 ^ r) = F (2 ^ r + k)
        rw [two_xor hk]
/-- in how many ways the last k houses take what is left -/
def bw (N : Nat) (c : Nat → Nat → Bool) : Nat → Nat → Nat
  | 0, _ => 1
  | k + 1, t => fb_sm (fun r => if t.testBit r = false ∧ c (N - (k + 1)) r = true then bw N c k (t ||| 2 ^ r) else 0) N
def kB (N : Nat) (c : Nat → Nat → Bool) (t : Nat) : Nat := bw N c (N - n_pop t) t
theorem kB_step {N : Nat} {c : Nat → Nat → Bool} (hN : N ≤ 8) {t : Nat} (h : n_pop t < N) : kB N c t = fb_sm (fun r => if t.testBit r = false ∧ c (n_pop t) r = true then kB N c (t ||| 2 ^ r) else 0) N := by
  unfold kB
  obtain ⟨m, hm⟩ : ∃ m, N - n_pop t = m + 1 := ⟨N - n_pop t - 1, by omega⟩
  rw [hm, bw, show N - (m + 1) = n_pop t by omega]
  refine fb_sm_cong (fun r hr => ?_)
  show (if _ then _ else _) = (if _ then _ else _)
  by_cases q : t.testBit r = false ∧ c (n_pop t) r = true
  · rw [if_pos q, if_pos q, n_pop_set (by omega) q.1, show N - (n_pop t + 1) = m by omega]
  · rw [if_neg q, if_neg q]
theorem kF_step {N : Nat} {c : Nat → Nat → Bool} (hN : N ≤ 8) {t k : Nat} (h : n_pop t = k + 1) : kF N c t = fb_sm (fun r => if t.testBit r = true ∧ c k r = true then kF N c (t ^^^ 2 ^ r) else 0) N := by
  unfold kF
  rw [h, fw]
  refine fb_sm_cong (fun r hr => ?_)
  show (if _ then _ else _) = (if _ then _ else _)
  by_cases q : t.testBit r = true ∧ c k r = true
  · have := xb_pop (by omega) q.1
    rw [if_pos q, if_pos q, show n_pop (t ^^^ 2 ^ r) = k by omega]
  · rw [if_neg q, if_neg q]
theorem fw_cong {N : Nat} {c c' : Nat → Nat → Bool} : ∀ (k t : Nat), (∀ h i, h < k → i < N → c h i = c' h i) → fw N c k t = fw N c' k t
  | 0, t, _ => rfl
  | k + 1, t, h => by
    rw [fw, fw]
    refine fb_sm_cong (fun r hr => ?_)
    show (if _ then _ else _) = (if _ then _ else _)
    rw [h k r (by omega) hr, fw_cong k _ (fun h' i h1 h2 => h h' i (by omega) h2)]
theorem bw_cong {N : Nat} {c c' : Nat → Nat → Bool} : ∀ (k t : Nat), k ≤ N → (∀ h i, N - k ≤ h → h < N → i < N → c h i = c' h i) → bw N c k t = bw N c' k t
  | 0, t, _, _ => rfl
  | k + 1, t, hk, h => by
    rw [bw, bw]
    refine fb_sm_cong (fun r hr => ?_)
    show (if _ then _ else _) = (if _ then _ else _)
    rw [h (N - (k + 1)) r (by omega) (by omega) hr, bw_cong k _ (by omega) (fun h' i h1 h2 h3 => h h' i (by omega) h2 h3)]
/-- ways that pass k houses by a cut -/
def kS (N : Nat) (c : Nat → Nat → Bool) (k : Nat) : Nat := fb_sm (fun t => if n_pop t = k then kF N c t * kB N c t else 0) (2 ^ N)
def kX (N : Nat) (c : Nat → Nat → Bool) (k r t : Nat) : Nat := if n_pop t = k ∧ t.testBit r = false ∧ c k r = true then kF N c t * kB N c (t ||| 2 ^ r) else 0
theorem kS_low {N : Nat} {c : Nat → Nat → Bool} (hN : N ≤ 8) {k : Nat} (hk : k < N) : kS N c k = fb_sm (fun r => fb_sm (fun t => kX N c k r t) (2 ^ N)) N := by
  unfold kS
  rw [← fb_sm_comm (fun t r => kX N c k r t)]
  refine fb_sm_cong (fun t ht => ?_)
  show (if _ then _ else _) = _
  unfold kX
  by_cases q : n_pop t = k
  · rw [if_pos q, kB_step hN (by omega), ← fb_sm_mul]
    refine fb_sm_cong (fun r hr => ?_)
    show _ * (if _ then _ else _) = (if _ then _ else _)
    rw [q]
    by_cases q2 : t.testBit r = false ∧ c k r = true
    · rw [if_pos q2, if_pos ⟨rfl, q2⟩]
    · rw [if_neg q2, if_neg (fun z => q2 z.2), Nat.mul_zero]
  · rw [if_neg q]
    exact (fb_sm_nul (fun r _ => if_neg (fun z => q z.1))).symm
theorem kS_high {N : Nat} {c : Nat → Nat → Bool} (hN : N ≤ 8) {k : Nat} (hk : k < N) : kS N c (k + 1) = fb_sm (fun r => fb_sm (fun t => kX N c k r t) (2 ^ N)) N := by
  have e : ∀ r, r < N → fb_sm (fun t => kX N c k r t) (2 ^ N) = fb_sm (fun u => if n_pop u = k + 1 ∧ u.testBit r = true ∧ c k r = true then kF N c (u ^^^ 2 ^ r) * kB N c u else 0) (2 ^ N) := by
    intro r hr
    rw [← fb_sm_flip N hr]
    refine fb_sm_cong (fun u hu => ?_)
    show kX N c k r (u ^^^ 2 ^ r) = (if _ then _ else _)
    unfold kX
    by_cases q : u.testBit r = true
    · have h1 := xb_pop (by omega) q
      rw [xb_or q]
      by_cases q2 : n_pop u = k + 1 ∧ c k r = true
      · rw [if_pos ⟨by omega, xb_self q, q2.2⟩, if_pos ⟨q2.1, q, q2.2⟩]
      · rw [if_neg (fun z => q2 ⟨by omega, z.2.2⟩), if_neg (fun z => q2 ⟨z.1, z.2.2⟩)]
    · rw [if_neg (fun z => ?_), if_neg (fun z => q z.2.1)]
      have := z.2.1
      rw [fb_bit_flip, ts_nt' q] at this
      simp at this
  rw [fb_sm_cong e, ← fb_sm_comm (fun u r => if n_pop u = k + 1 ∧ u.testBit r = true ∧ c k r = true then kF N c (u ^^^ 2 ^ r) * kB N c u else 0)]
  unfold kS
  refine fb_sm_cong (fun u hu => ?_)
  show (if _ then _ else _) = _
  by_cases q : n_pop u = k + 1
  · rw [if_pos q, kF_step hN q, Nat.mul_comm, ← fb_sm_mul]
    refine fb_sm_cong (fun r hr => ?_)
    show _ * (if _ then _ else _) = (if _ then _ else _)
    by_cases q2 : u.testBit r = true ∧ c k r = true
    · rw [if_pos q2, if_pos ⟨q, q2⟩, Nat.mul_comm]
    · rw [if_neg q2, if_neg (fun z => q2 z.2), Nat.mul_zero]
  · rw [if_neg q]
    exact (fb_sm_nul (fun r _ => if_neg (fun z => q z.1))).symm
theorem kS_const {N : Nat} {c : Nat → Nat → Bool} (hN : N ≤ 8) : ∀ k, k ≤ N → kS N c k = kS N c 0
  | 0, _ => rfl
  | k + 1, h => by rw [kS_high hN (by omega), ← kS_low hN (by omega), kS_const hN k (by omega)]
theorem pop_full {N : Nat} (hN : N ≤ 8) : n_pop (2 ^ N - 1) = N := by
  have h1 : 1 ≤ 2 ^ N := Nat.two_pow_pos _
  have h2 : 2 ^ N ≤ 2 ^ 8 := Nat.pow_le_pow_right (by decide) hN
  exact (n_pop_all N (by omega) (2 ^ N - 1) (by omega) (by omega)).mpr (by omega)
theorem kS_top {N : Nat} {c : Nat → Nat → Bool} (hN : N ≤ 8) : kS N c N = kF N c (2 ^ N - 1) := by
  have h1 : 1 ≤ 2 ^ N := Nat.two_pow_pos _
  have h2 : 2 ^ N ≤ 2 ^ 8 := Nat.pow_le_pow_right (by decide) hN
  unfold kS
  rw [fb_sm_one (i := 2 ^ N - 1) (by omega) (fun t ht hne => ?_)]
  · show (if _ then _ else _) = _
    rw [if_pos (pop_full hN)]
    unfold kB
    rw [pop_full hN, Nat.sub_self, bw, Nat.mul_one]
  · show (if _ then _ else _) = _
    rw [if_neg]
    intro q
    have := (n_pop_all N (by omega) t (by omega) ht).mp q
    omega
theorem kS_bot {N : Nat} {c : Nat → Nat → Bool} (hN : N ≤ 8) : kS N c 0 = kB N c 0 := by
  have h1 : 1 ≤ 2 ^ N := Nat.two_pow_pos _
  unfold kS
  rw [fb_sm_one (i := 0) (by omega) (fun t ht hne => ?_)]
  · show (if _ then _ else _) = _
    rw [if_pos pop_0]
    unfold kF
    rw [pop_0, fw, if_pos rfl, Nat.one_mul]
  · show (if _ then _ else _) = _
    rw [if_neg]
    intro q
    obtain ⟨k, hk⟩ := pop_pos hN ht hne
    omega
theorem kF_kB {N : Nat} {c : Nat → Nat → Bool} (hN : N ≤ 8) : kF N c (2 ^ N - 1) = kB N c 0 := by
  rw [← kS_top hN, kS_const hN N (Nat.le_refl _), kS_bot hN]
/-- one house's roof is told -/
theorem kF_cut {N : Nat} {c c' : Nat → Nat → Bool} (hN : N ≤ 8) {h r : Nat} (hh : h < N) (hr : r < N) (hc : ∀ k i, k < N → i < N → c' k i = (c k i && (!decide (k = h) || decide (i = r)))) : kF N c' (2 ^ N - 1) = fb_sm (fun t => kX N c h r t) (2 ^ N) := by
  rw [← kS_top hN, kS_const hN N (Nat.le_refl _), ← kS_const hN h (by omega), kS_low hN hh, fb_sm_one hr (fun i hi hne => ?_)]
  · refine fb_sm_cong (fun t ht => ?_)
    show kX N c' h r t = kX N c h r t
    unfold kX
    rw [hc h r hh hr, decide_eq_true (rfl : r = r), Bool.or_true, Bool.and_true]
    by_cases q : n_pop t = h ∧ t.testBit r = false ∧ c h r = true
    · rw [if_pos q, if_pos q]
      have e1 : kF N c' t = kF N c t := by
        unfold kF
        refine fw_cong _ _ (fun k i hk hi => ?_)
        rw [hc k i (by omega) hi, decide_eq_false (show ¬ k = h by omega)]
        simp
      have e2 : kB N c' (t ||| 2 ^ r) = kB N c (t ||| 2 ^ r) := by
        unfold kB
        have hp := n_pop_set (s := t) (r := r) (by omega) q.2.1
        refine bw_cong _ _ (by omega) (fun k i hk hk2 hi => ?_)
        rw [hc k i hk2 hi, decide_eq_false (show ¬ k = h by omega)]
        simp
      rw [e1, e2]
    · rw [if_neg q, if_neg q]
  · refine fb_sm_nul (fun t ht => if_neg (fun z => ?_))
    have := z.2.2
    rw [hc h i hh hi, decide_eq_true (rfl : h = h), decide_eq_false hne] at this
    simp at this
/-! a roof that is told to be one house's is no other's -/
theorem fw_zero {N : Nat} {c : Nat → Nat → Bool} {h r : Nat} (ho : ∀ i, i < N → c h i = true → i = r) : ∀ k t, h < k → t.testBit r = false → fw N c k t = 0
  | 0, t, hk, _ => by omega
  | k + 1, t, hk, ht => by
    rw [fw]
    refine fb_sm_nul (fun i hi => ?_)
    show (if _ then _ else _) = 0
    split
    · next q =>
      have hne : ¬ i = r := by
        intro e
        rw [e, ht] at q
        exact absurd q.1 (by decide)
      rcases (show k = h ∨ h < k by omega) with e | e
      · subst e
        exact absurd (ho i hi q.2) hne
      · refine fw_zero ho k _ e ?_
        rw [fb_bit_flip, ht, decide_eq_false (show ¬ r = i from fun z => hne z.symm)]
        rfl
    · rfl
theorem fw_clean {N : Nat} {c c' : Nat → Nat → Bool} {h r : Nat} (ho : ∀ i, i < N → c h i = true → i = r) (hc : ∀ k i, k < N → i < N → c' k i = (c k i && (decide (k = h) || !decide (i = r)))) : ∀ k t, k ≤ N → (t.testBit r = true ↔ h < k) → fw N c k t = fw N c' k t
  | 0, t, _, _ => rfl
  | k + 1, t, hk, ht => by
    rw [fw, fw]
    refine fb_sm_cong (fun i hi => ?_)
    show (if _ then _ else _) = (if _ then _ else _)
    by_cases q : t.testBit i = true
    · have hc1 := hc k i (by omega) hi
      have ih := fw_clean ho hc k (t ^^^ 2 ^ i) (by omega)
      rw [fb_bit_flip] at ih
      by_cases e : i = r
      · subst e
        rw [decide_eq_true (rfl : i = i), q] at ih
        rw [decide_eq_true (rfl : i = i)] at hc1
        rcases (show k = h ∨ h < k by have := ht.mp q; omega) with e2 | e2
        · subst e2
          rw [decide_eq_true (rfl : k = k)] at hc1
          rw [ih ⟨fun z => by simp at z, fun z => by omega⟩, hc1]
          simp
        · rw [decide_eq_false (show ¬ k = h by omega)] at hc1
          have hz := fw_zero ho k (t ^^^ 2 ^ i) e2 (xb_self q)
          have hn : ¬ (t.testBit i = true ∧ c' k i = true) := fun z => by rw [hc1] at z; simp at z
          rw [hz, if_neg hn]
          split <;> rfl
      · have e' : ¬ r = i := fun z => e z.symm
        rw [decide_eq_false e', Bool.xor_false] at ih
        rw [decide_eq_false e] at hc1
        simp only [Bool.not_false, Bool.or_true, Bool.and_true] at hc1
        rw [hc1]
        by_cases e2 : k = h
        · subst e2
          by_cases q2 : c k i = true
          · exact absurd (ho i hi q2) e
          · rw [if_neg (fun z => q2 z.2), if_neg (fun z => q2 z.2)]
        · rw [ih ⟨fun z => by have := ht.mp z; omega, fun z => ht.mpr (by omega)⟩]
    · rw [if_neg (fun z => q z.1), if_neg (fun z => q z.1)]
theorem kF_clean {N : Nat} {c c' : Nat → Nat → Bool} (hN : N ≤ 8) {h r : Nat} (hh : h < N) (hr : r < N) (ho : ∀ i, i < N → c h i = true → i = r) (hc : ∀ k i, k < N → i < N → c' k i = (c k i && (decide (k = h) || !decide (i = r)))) : kF N c (2 ^ N - 1) = kF N c' (2 ^ N - 1) := by
  unfold kF
  rw [pop_full hN]
  refine fw_clean ho hc N _ (Nat.le_refl _) ?_
  rw [Nat.testBit_two_pow_sub_one]
  simp [hr, hh]
theorem kF_cong {N : Nat} {c c' : Nat → Nat → Bool} (hN : N ≤ 8) (h : ∀ k i, k < N → i < N → c k i = c' k i) : kF N c (2 ^ N - 1) = kF N c' (2 ^ N - 1) := by
  unfold kF
  rw [pop_full hN]
  exact fw_cong N _ h
