/-! facts as the class reads them -/
def ko (a : Ab) : Nat → Nat → Nat
  | 0, _ => 2 ^ ab_hc a - 1
  | k + 1, h => if (a 8 k < ab_hc a ∧ a 9 k < ab_hc a) ∧ h = a 8 k then (if a 10 k = 1 then ko a k h &&& 2 ^ a 9 k else kn_clr (ko a k h) (a 9 k)) else ko a k h
def kp (a : Ab) : Nat → Bool
  | 0 => true
  | k + 1 => kp a k && !(decide (a 10 k = 1) && !decide (a 8 k < ab_hc a ∧ a 9 k < ab_hc a))
def kO (a : Ab) (h : Nat) : Nat := if kp a (a 7 0) = true then ko a (a 7 0) h else 0
theorem ko_lt {a : Ab} : ∀ k h, ko a k h < 256
  | 0, h => by
    have := pow_256 a
    rw [ko]
    omega
  | k + 1, h => by
    have ih := ko_lt (a := a) k h
    rw [ko]
    split
    · split
      · exact Nat.lt_of_le_of_lt Nat.and_le_left ih
      · exact kn_clr_lt ih
    · exact ih
theorem kO_lt (a : Ab) (h : Nat) : kO a h < 256 := by
  unfold kO
  split
  · exact ko_lt _ _
  · omega
theorem and_pow {m r i : Nat} : (m &&& 2 ^ r).testBit i = (m.testBit i && decide (i = r)) := by
  rw [Nat.testBit_and, Nat.testBit_two_pow]
  congr 1
  by_cases q : i = r
  · rw [decide_eq_true q, decide_eq_true q.symm]
  · rw [decide_eq_false q, decide_eq_false (fun z => q z.symm)]
theorem ko_may {a : Ab} (hW : ab_W a) : ∀ (k : Nat) (F : Nat → Nat → Bool), kF (ab_hc a) (fun h r => F h r && (kp a k && (ko a k h).testBit r)) (2 ^ ab_hc a - 1) = kF (ab_hc a) (fun h r => F h r && (ab_may a k h).testBit r) (2 ^ ab_hc a - 1)
  | 0, F => rfl
  | k + 1, F => by
    have h8 := ab_hc_8 a
    have b2 := hW.2.2.2.2.2.2.2.2.2.2.2.2.1 k
    by_cases his : a 10 k = 1
    · by_cases ht : a 8 k < ab_hc a ∧ a 9 k < ab_hc a
      · have ih := ko_may hW k (fun h r => F h r && (!decide (h = a 8 k) || decide (r = a 9 k)))
        refine (kF_cong h8 (fun h r hh hr => ?_)).trans (ih.trans ((kF_clean h8 ht.1 ht.2 (fun i hi q => ?_) (c' := fun h r => F h r && (ab_may a (k + 1) h).testBit r) (fun h r hh hr => ?_))))
        · show (F h r && (kp a (k + 1) && (ko a (k + 1) h).testBit r)) = (F h r && (!decide (h = a 8 k) || decide (r = a 9 k)) && (kp a k && (ko a k h).testBit r))
          rw [kp, ko, decide_eq_true his, decide_eq_true ht]
          by_cases e : h = a 8 k
          · rw [if_pos ⟨ht, e⟩, if_pos his, and_pow, decide_eq_true e]
            cases F h r <;> cases kp a k <;> cases (ko a k h).testBit r <;> cases decide (r = a 9 k) <;> rfl
          · rw [if_neg (fun z => e z.2), decide_eq_false e]
            cases F h r <;> cases kp a k <;> cases (ko a k h).testBit r <;> rfl
        · simp only [Bool.and_eq_true] at q
          have := q.1.2
          simpa using this
        · show (F h r && (ab_may a (k + 1) h).testBit r) = (F h r && (!decide (h = a 8 k) || decide (r = a 9 k)) && (ab_may a k h).testBit r && (decide (h = a 8 k) || !decide (r = a 9 k)))
          rw [ab_may, if_pos his, if_pos ht]
          by_cases e : h = a 8 k
          · rw [if_pos e, and_pow, decide_eq_true e]
            cases F h r <;> cases (ab_may a k h).testBit r <;> cases decide (r = a 9 k) <;> rfl
          · rw [if_neg e, kn_clr_tb (by omega) (by omega), decide_eq_false e]
            cases F h r <;> cases (ab_may a k h).testBit r <;> cases decide (r = a 9 k) <;> rfl
      · refine kF_cong h8 (fun h r hh hr => ?_)
        show (F h r && (kp a (k + 1) && (ko a (k + 1) h).testBit r)) = (F h r && (ab_may a (k + 1) h).testBit r)
        rw [kp, ab_may, if_pos his, if_neg ht, decide_eq_true his, decide_eq_false ht, Nat.zero_testBit]
        simp
    · by_cases ht : a 8 k < ab_hc a ∧ a 9 k < ab_hc a
      · have ih := ko_may hW k (fun h r => F h r && (!decide (h = a 8 k) || !decide (r = a 9 k)))
        refine (kF_cong h8 (fun h r hh hr => ?_)).trans (ih.trans (kF_cong h8 (fun h r hh hr => ?_)))
        · show (F h r && (kp a (k + 1) && (ko a (k + 1) h).testBit r)) = (F h r && (!decide (h = a 8 k) || !decide (r = a 9 k)) && (kp a k && (ko a k h).testBit r))
          rw [kp, ko, decide_eq_false his]
          by_cases e : h = a 8 k
          · rw [if_pos ⟨ht, e⟩, if_neg his, kn_clr_tb (by omega) (by omega), decide_eq_true e]
            cases F h r <;> cases kp a k <;> cases (ko a k h).testBit r <;> cases decide (r = a 9 k) <;> rfl
          · rw [if_neg (fun z => e z.2), decide_eq_false e]
            cases F h r <;> cases kp a k <;> cases (ko a k h).testBit r <;> rfl
        · show (F h r && (!decide (h = a 8 k) || !decide (r = a 9 k)) && (ab_may a k h).testBit r) = (F h r && (ab_may a (k + 1) h).testBit r)
          rw [ab_may, if_neg his]
          by_cases e : h = a 8 k
          · rw [if_pos ⟨ht, e⟩, kn_clr_tb (by omega) (by omega), decide_eq_true e]
            cases F h r <;> cases (ab_may a k h).testBit r <;> cases decide (r = a 9 k) <;> rfl
          · rw [if_neg (fun z => e z.2), decide_eq_false e]
            cases F h r <;> cases (ab_may a k h).testBit r <;> rfl
      · refine (kF_cong h8 (fun h r hh hr => ?_)).trans ((ko_may hW k F).trans (kF_cong h8 (fun h r hh hr => ?_)))
        · show (F h r && (kp a (k + 1) && (ko a (k + 1) h).testBit r)) = (F h r && (kp a k && (ko a k h).testBit r))
          rw [kp, ko, decide_eq_false his, if_neg (fun z => ht z.1)]
          cases F h r <;> cases kp a k <;> cases (ko a k h).testBit r <;> rfl
        · show (F h r && (ab_may a k h).testBit r) = (F h r && (ab_may a (k + 1) h).testBit r)
          rw [ab_may, if_neg his, if_neg (fun z => ht z.1)]
def kOc (a : Ab) (h r : Nat) : Bool := (kO a h).testBit r
theorem kOc_e (a : Ab) (h r : Nat) : kOc a h r = (kp a (a 7 0) && (ko a (a 7 0) h).testBit r) := by
  unfold kOc kO
  split
  · next q => rw [q]; rfl
  · next q => rw [ts_nt' q, Nat.zero_testBit]; rfl
/-- ways with one house's roof told, as the class counts them -/
theorem kW_cut {a : Ab} (hW : ab_W a) {h r : Nat} (hh : h < ab_hc a) (hr : r < ab_hc a) : kW a (nI h) (nI r) = fb_sm (fun t => kX (ab_hc a) (kOc a) h r t) (2 ^ ab_hc a) := by
  have h8 := ab_hc_8 a
  rw [← kF_cut h8 hh hr (c' := fun k i => kOc a k i && (!decide (k = h) || decide (i = r))) (fun k i _ _ => rfl)]
  unfold kW
  refine Eq.trans ?_ ((ko_may hW (a 7 0) (fun k i => !decide (k = h) || decide (i = r))).symm.trans ?_)
  · refine kF_cong h8 (fun k i hk hi => ?_)
    show kc a (nI h) (nI r) k i = _
    unfold kc
    have e1 : decide (nI k = nI h) = decide (k = h) := by
      apply Bool.eq_iff_iff.mpr
      rw [decide_eq_true_iff, decide_eq_true_iff, n_eq (by omega) (by omega)]
    have e2 : decide (nI i = nI r) = decide (i = r) := by
      apply Bool.eq_iff_iff.mpr
      rw [decide_eq_true_iff, decide_eq_true_iff, n_eq (by omega) (by omega)]
    rw [e1, e2, Bool.and_comm]
  · refine kF_cong h8 (fun k i hk hi => ?_)
    show _ = (kOc a k i && _)
    rw [kOc_e, Bool.and_comm]
theorem kT_B {a : Ab} (hW : ab_W a) : kT a = if kp a (a 7 0) = true then kB (ab_hc a) (kOc a) 0 else 0 := by
  have h8 := ab_hc_8 a
  have key : ab_hc a ≠ 0 → kW a (-1) (-1) = kB (ab_hc a) (kOc a) 0 := by
    intro h0
    rw [← kF_kB h8]
    unfold kW
    refine Eq.trans ?_ ((ko_may hW (a 7 0) (fun _ _ => true)).symm.trans ?_)
    · refine kF_cong h8 (fun k i hk hi => ?_)
      show kc a (-1) (-1) k i = _
      unfold kc
      have e1 : decide (nI k = -1) = false := by
        have h3 : (nI k = -1) = False := n_m1 (by omega)
        rw [decide_eq_false_iff_not, h3]
        exact id
      rw [e1]
      simp
    · refine kF_cong h8 (fun k i hk hi => ?_)
      show _ = kOc a k i
      rw [kOc_e]
      rfl
  unfold kT
  by_cases h0 : ab_hc a = 0
  · rw [if_pos h0]
    have e : ∀ k, kp a k = true ↔ fb_ct (fun k => decide (a 10 k = 1)) k = 0 := by
      intro k
      induction k with
      | zero => simp [kp, fb_ct]
      | succ k ih =>
        rw [kp, fb_ct_succ, Bool.and_eq_true, ih]
        by_cases e : a 10 k = 1
        · simp [e, h0]
        · simp [e]
    have e1 : kB (ab_hc a) (kOc a) 0 = 1 := by
      unfold kB
      rw [h0, pop_0]
      rfl
    rw [e1]
    by_cases q : fb_ct (fun k => decide (a 10 k = 1)) (a 7 0) = 0
    · rw [if_pos q, if_pos ((e _).mpr q)]
    · rw [if_neg q, if_neg (fun z => q ((e _).mp z))]
  · rw [if_neg h0, key h0]
    split
    · rfl
    · next q =>
      have h1 : n_pop 0 < ab_hc a := by rw [pop_0]; omega
      rw [kB_step h8 h1]
      refine fb_sm_nul (fun r hr => if_neg (fun z => ?_))
      have := z.2
      rw [kOc_e, ts_nt' q] at this
      exact absurd this (by simp)
