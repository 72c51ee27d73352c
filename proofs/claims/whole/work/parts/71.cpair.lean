/-! the law: both sides, call by call -/
theorem rn_A.up {a : Ab} {b : Bb} {σ σ' : ra_St} (h : rn_A a b σ) (e : ra_up σ σ') : rn_A a b σ' := by
  unfold rn_A rn_R rn_T rn_Q
  rw [e 82 (by decide), e 83 (by decide), e 84 (by decide), e 89 (by decide), e 90 (by decide), e 91 (by decide), e 100 (by decide), e 103 (by decide), e 104 (by decide), e 105 (by decide), e 108 (by decide), e 109 (by decide), e 110 (by decide), e 111 (by decide)]
  exact h
theorem rc_I.lo {a : Ab} {b : Bb} {n : Nat} {σ σ' : ra_St} (h : rc_I a b n σ) (e : ra_lo σ σ') : rc_I a b n σ' := by
  have h8 := ab_hc_8 a
  obtain ⟨h1, h2, h3, h4, h5, v, w, x, k, h6, h7, g1, g2, g3, g4, g5⟩ := h
  refine ⟨?_, ?_, ?_, ?_, ?_, v, w, x, k, h6, ?_, ?_, ?_, ?_, ?_, ?_⟩
  · unfold rc_V rc_T rc_H
    rw [e 1 (by decide), e 2 (by decide), e 3 (by decide), e 4 (by decide), e 5 (by decide), e 6 (by decide), e 7 (by decide), e 8 (by decide), e 9 (by decide), e 10 (by decide), e 11 (by decide)]
    exact h1
  · unfold rc_W
    rw [e 12 (by decide), e 13 (by decide)]
    exact h2
  · intro i r hi hr
    rw [e (43 + i) (by omega)]
    exact h3 i r hi hr
  · unfold rc_K
    rw [e 54 (by decide), e 55 (by decide), e 56 (by decide), e 57 (by decide)]
    exact h4
  · unfold rc_C
    rw [e 72 (by decide), e 0 (by decide)]
    refine ⟨h5.1, h5.2.1, fun s hs => ?_⟩
    rw [e (74 + 2 * s) (by omega), e (75 + 2 * s) (by omega)]
    exact h5.2.2 s hs
  · unfold rc_N
    rw [e 1 (by decide), e 12 (by decide), e 41 (by decide), e 54 (by decide)]
    exact h7
  · unfold rc_S at *
    rw [e 14 (by decide)]
    refine g1.imp (fun q w k i hw hk hi => ?_)
    rw [e (24 + w) (by omega)]
    exact q w k i hw hk hi
  · unfold rc_M at *
    rw [e 28 (by decide)]
    refine g2.imp (fun q => ?_)
    unfold rs_M
    rw [e 37 (by decide), e 38 (by decide), e 39 (by decide)]
    exact q
  · unfold rc_Y at *
    rw [e 41 (by decide)]
    refine g3.imp (fun q => ?_)
    unfold rs_X
    rw [e 41 (by decide), e 51 (by decide)]
    exact q
  · unfold rc_B at *
    rw [e 41 (by decide)]
    refine g4.imp (fun q => ?_)
    unfold rs_B
    rw [e 41 (by decide), e 52 (by decide)]
    exact q
  · unfold rc_J at *
    rw [e 54 (by decide)]
    refine g5.imp (fun q => ?_)
    unfold rs_K
    rw [e 54 (by decide)]
    refine ⟨q.1, fun i r hi hr => ?_⟩
    rw [e (62 + i) (by omega)]
    exact q.2 i r hi hr
/-- both sides hold the same told things, behind n calls -/
def lj (n : Nat) (σ : ra_St) : Prop := ∃ a b, ab_W a ∧ bb_W b ∧ rc_I a b n σ ∧ rn_A a b σ
def lp (l : Launch) (X : ra_X) (y1 y2 : ra_MI) (vs : List Value) : Prop := ∀ n σ, lj n σ → n < 1000000000 → ∃ sp1, ra_MOK l X y1 sp1 ∧ sp1 (.ref 0 :: vs) σ (fun r1 σ1 => ∃ v : Int32, r1 = some (.int v) ∧ ∃ sp2, ra_MOK l X y2 sp2 ∧ sp2 (.ref 82 :: vs) σ1 (fun r2 σ2 => r2 = some (.int v) ∧ lj (n + 1) σ2))
def lpJ (l : Launch) (X : ra_X) (y1 y2 : ra_MI) (vs : List Value) : Prop := ∀ n σ, lj n σ → n < 1000000000 → ∃ sp1, ra_MOK l X y1 sp1 ∧ sp1 (.ref 0 :: vs) σ (fun r1 σ1 => ∃ v : Int64, r1 = some (.long v) ∧ ∃ sp2, ra_MOK l X y2 sp2 ∧ sp2 (.ref 82 :: vs) σ1 (fun r2 σ2 => r2 = some (.long v) ∧ lj (n + 1) σ2))
theorem lp_type {l : Launch} {X : ra_X} {x0 x1 : Int32} : lp l X mi_R_type mi_N_type [.int x0, .int x1] := by
  intro n σ hj hn
  obtain ⟨a, b, hW, hB, hI, hA⟩ := hj
  exact ⟨_, k_R_type (l := l) (X := X) (a := a) (b := b) (n := n) hn hW (fun a ha => k_V_temperAt ha), Eq.mpr (q_R_type (oo := 0)) ⟨rfl, hI, fun σ1 hI1 hu => ⟨_, rfl, _, k_N_type (l := l) (X := X) (a := a) (b := b) hW, Eq.mpr (q_N_type (oo := 82)) ⟨rfl, ⟨(hA.up hu), fun σ2 hA2 hlo => ⟨rfl, _, _, ab_type_W hW _ _, hB, hI1.lo hlo, hA2⟩⟩⟩⟩⟩⟩
theorem lp_wipe {l : Launch} {X : ra_X} {x0 : Int32} : lp l X mi_R_wipe mi_N_wipe [.int x0] := by
  intro n σ hj hn
  obtain ⟨a, b, hW, hB, hI, hA⟩ := hj
  exact ⟨_, k_R_wipe (l := l) (X := X) (a := a) (b := b) (n := n) hn hW (fun a ha => k_V_temperAt ha), Eq.mpr (q_R_wipe (oo := 0)) ⟨rfl, hI, fun σ1 hI1 hu => ⟨_, rfl, _, k_N_wipe (l := l) (X := X) (a := a) (b := b) hW, Eq.mpr (q_N_wipe (oo := 82)) ⟨rfl, ⟨(hA.up hu), fun σ2 hA2 hlo => ⟨rfl, _, _, ab_wipe_W hW _, hB, hI1.lo hlo, hA2⟩⟩⟩⟩⟩⟩
theorem lp_fault {l : Launch} {X : ra_X} {x0 : Int32} : lp l X mi_R_fault mi_N_fault [.int x0] := by
  intro n σ hj hn
  obtain ⟨a, b, hW, hB, hI, hA⟩ := hj
  exact ⟨_, k_R_fault (l := l) (X := X) (a := a) (b := b) (n := n), Eq.mpr (q_R_fault (oo := 0)) ⟨rfl, hI, ⟨_, rfl, _, k_N_fault (l := l) (X := X) (a := a) hW, Eq.mpr (q_N_fault (oo := 82)) ⟨rfl, ⟨hA.1, fun σ2 hf => ⟨rfl, _, _, hW, hB, (hI.lo (hf.lo (by decide))).more (Nat.le_succ _), hA.fr hf (fun _ h => h)⟩⟩⟩⟩⟩⟩
theorem lp_house {l : Launch} {X : ra_X} {x0 x1 : Int32} : lp l X mi_R_house mi_N_house [.int x0, .int x1] := by
  intro n σ hj hn
  obtain ⟨a, b, hW, hB, hI, hA⟩ := hj
  exact ⟨_, k_R_house (l := l) (X := X) (a := a) (b := b) (n := n), Eq.mpr (q_R_house (oo := 0)) ⟨rfl, hI, ⟨_, rfl, _, k_N_house (l := l) (X := X) (a := a) hW, Eq.mpr (q_N_house (oo := 82)) ⟨rfl, ⟨hA.1, fun σ2 hf => ⟨rfl, _, _, hW, hB, (hI.lo (hf.lo (by decide))).more (Nat.le_succ _), hA.fr hf (fun _ h => h)⟩⟩⟩⟩⟩⟩
theorem lp_rain {l : Launch} {X : ra_X} {x0 : Int32} : lp l X mi_R_rain mi_N_rain [.int x0] := by
  intro n σ hj hn
  obtain ⟨a, b, hW, hB, hI, hA⟩ := hj
  exact ⟨_, k_R_rain (l := l) (X := X) (a := a) (b := b) (n := n) hn hW, Eq.mpr (q_R_rain (oo := 0)) ⟨rfl, hI, fun σ1 hI1 hu => ⟨_, rfl, _, k_N_rain (l := l) (X := X) (a := a) (b := b) hW, Eq.mpr (q_N_rain (oo := 82)) ⟨rfl, ⟨(hA.up hu), fun σ2 hA2 hlo => ⟨rfl, _, _, ab_rain_W hW _, hB, hI1.lo hlo, hA2⟩⟩⟩⟩⟩⟩
theorem lp_read {l : Launch} {X : ra_X} {x0 : Int32} : lp l X mi_R_read mi_N_read [.int x0] := by
  intro n σ hj hn
  obtain ⟨a, b, hW, hB, hI, hA⟩ := hj
  exact ⟨_, k_R_read (l := l) (X := X) (a := a) (b := b) (n := n) hn hW, Eq.mpr (q_R_read (oo := 0)) ⟨rfl, hI, hB, fun σ1 hI1 hu => ⟨_, rfl, _, k_N_read (l := l) (X := X) (a := a) (b := b) hW hB, Eq.mpr (q_N_read (oo := 82)) ⟨rfl, ⟨(hA.up hu), fun σ2 hA2 hlo => ⟨rfl, _, _, ab_read_W hW _ _, bb_read_W hB _, hI1.lo hlo, hA2⟩⟩⟩⟩⟩⟩
theorem lp_undo {l : Launch} {X : ra_X} : lp l X mi_R_undo mi_N_undo [] := by
  intro n σ hj hn
  obtain ⟨a, b, hW, hB, hI, hA⟩ := hj
  exact ⟨_, k_R_undo (l := l) (X := X) (a := a) (b := b) (n := n) hW, Eq.mpr (q_R_undo (oo := 0)) ⟨rfl, hI, fun σ1 hI1 hu => ⟨_, rfl, _, k_N_undo (l := l) (X := X) (a := a) (b := b) hW, Eq.mpr (q_N_undo (oo := 82)) ⟨rfl, ⟨(hA.up hu), fun σ2 hA2 hlo => ⟨rfl, _, _, ab_undo_W hW, hB, hI1.lo hlo, hA2⟩⟩⟩⟩⟩⟩
theorem lp_set {l : Launch} {X : ra_X} {x0 x1 : Int32} : lp l X mi_R_set mi_N_set [.int x0, .int x1] := by
  intro n σ hj hn
  obtain ⟨a, b, hW, hB, hI, hA⟩ := hj
  exact ⟨_, k_R_set (l := l) (X := X) (a := a) (b := b) (n := n), Eq.mpr (q_R_set (oo := 0)) ⟨rfl, hI, fun σ1 hI1 hu => ⟨_, rfl, _, k_N_set (l := l) (X := X) (a := a) (b := b), Eq.mpr (q_N_set (oo := 82)) ⟨rfl, ⟨(hA.up hu), fun σ2 hA2 hlo => ⟨rfl, _, _, ab_set_W hW _ _, hB, hI1.lo hlo, hA2⟩⟩⟩⟩⟩⟩
theorem lp_tiles {l : Launch} {X : ra_X} {x0 x1 : Int32} : lp l X mi_R_tiles mi_N_tiles [.int x0, .int x1] := by
  intro n σ hj hn
  obtain ⟨a, b, hW, hB, hI, hA⟩ := hj
  exact ⟨_, k_R_tiles (l := l) (X := X) (a := a) (b := b) (n := n) hn hW, Eq.mpr (q_R_tiles (oo := 0)) ⟨rfl, hI, fun σ1 hI1 hu => ⟨_, rfl, _, k_N_tiles (l := l) (X := X) (a := a) hW, Eq.mpr (q_N_tiles (oo := 82)) ⟨rfl, ⟨(hA.up hu).1, fun σ2 hf => ⟨rfl, _, _, hW, hB, (hI1.lo (hf.lo (by decide))).more (Nat.le_succ _), (hA.up hu).fr hf (fun _ h => h)⟩⟩⟩⟩⟩⟩
theorem lp_purse {l : Launch} {X : ra_X} {x0 x1 : Int32} : lp l X mi_R_purse mi_N_purse [.int x0, .int x1] := by
  intro n σ hj hn
  obtain ⟨a, b, hW, hB, hI, hA⟩ := hj
  exact ⟨_, k_R_purse (l := l) (X := X) (a := a) (b := b) (n := n) hn hW, Eq.mpr (q_R_purse (oo := 0)) ⟨rfl, hI, fun σ1 hI1 hu => ⟨_, rfl, _, k_N_purse (l := l) (X := X) (a := a) hW, Eq.mpr (q_N_purse (oo := 82)) ⟨rfl, ⟨(hA.up hu).1, fun σ2 hf => ⟨rfl, _, _, hW, hB, (hI1.lo (hf.lo (by decide))).more (Nat.le_succ _), (hA.up hu).fr hf (fun _ h => h)⟩⟩⟩⟩⟩⟩
theorem lp_harm {l : Launch} {X : ra_X} {x0 x1 : Int32} : lp l X mi_R_harm mi_N_harm [.int x0, .int x1] := by
  intro n σ hj hn
  obtain ⟨a, b, hW, hB, hI, hA⟩ := hj
  exact ⟨_, k_R_harm (l := l) (X := X) (a := a) (b := b) (n := n) hn hW, Eq.mpr (q_R_harm (oo := 0)) ⟨rfl, hI, fun σ1 hI1 hu => ⟨_, rfl, _, k_N_harm (l := l) (X := X) (a := a) hW, Eq.mpr (q_N_harm (oo := 82)) ⟨rfl, ⟨(hA.up hu).1, fun σ2 hf => ⟨rfl, _, _, hW, hB, (hI1.lo (hf.lo (by decide))).more (Nat.le_succ _), (hA.up hu).fr hf (fun _ h => h)⟩⟩⟩⟩⟩⟩
theorem lp_laid {l : Launch} {X : ra_X} {x0 x1 : Int32} : lp l X mi_R_laid mi_N_laid [.int x0, .int x1] := by
  intro n σ hj hn
  obtain ⟨a, b, hW, hB, hI, hA⟩ := hj
  exact ⟨_, k_R_laid (l := l) (X := X) (a := a) (b := b) (n := n) hn hW, Eq.mpr (q_R_laid (oo := 0)) ⟨rfl, hI, fun σ1 hI1 hu => ⟨_, rfl, _, k_N_laid (l := l) (X := X) (a := a) hW, Eq.mpr (q_N_laid (oo := 82)) ⟨rfl, ⟨(hA.up hu).1, fun σ2 hf => ⟨rfl, _, _, hW, hB, (hI1.lo (hf.lo (by decide))).more (Nat.le_succ _), (hA.up hu).fr hf (fun _ h => h)⟩⟩⟩⟩⟩⟩
theorem lp_all {l : Launch} {X : ra_X} {x0 x1 : Int32} : lp l X mi_R_all mi_N_all [.int x0, .int x1] := by
  intro n σ hj hn
  obtain ⟨a, b, hW, hB, hI, hA⟩ := hj
  exact ⟨_, k_R_all (l := l) (X := X) (a := a) (b := b) (n := n) hn hW, Eq.mpr (q_R_all (oo := 0)) ⟨rfl, hI, fun σ1 hI1 hu => ⟨_, rfl, _, k_N_all (l := l) (X := X) (a := a) hW, Eq.mpr (q_N_all (oo := 82)) ⟨rfl, ⟨(hA.up hu).1, fun σ2 hf => ⟨rfl, _, _, hW, hB, (hI1.lo (hf.lo (by decide))).more (Nat.le_succ _), (hA.up hu).fr hf (fun _ h => h)⟩⟩⟩⟩⟩⟩
theorem lp_ring {l : Launch} {X : ra_X} {x0 x1 : Int32} : lp l X mi_R_ring mi_N_ring [.int x0, .int x1] := by
  intro n σ hj hn
  obtain ⟨a, b, hW, hB, hI, hA⟩ := hj
  exact ⟨_, k_R_ring (l := l) (X := X) (a := a) (b := b) (n := n), Eq.mpr (q_R_ring (oo := 0)) ⟨rfl, hI, ⟨_, rfl, _, k_N_ring (l := l) (X := X) (a := a) hW, Eq.mpr (q_N_ring (oo := 82)) ⟨rfl, ⟨hA.1, fun σ2 hf => ⟨rfl, _, _, hW, hB, (hI.lo (hf.lo (by decide))).more (Nat.le_succ _), hA.fr hf (fun _ h => h)⟩⟩⟩⟩⟩⟩
theorem lp_dry {l : Launch} {X : ra_X} {x0 x1 x2 : Int32} : lp l X mi_R_dry mi_N_dry [.int x0, .int x1, .int x2] := by
  intro n σ hj hn
  obtain ⟨a, b, hW, hB, hI, hA⟩ := hj
  exact ⟨_, k_R_dry (l := l) (X := X) (a := a) (b := b) (n := n) hn hW, Eq.mpr (q_R_dry (oo := 0)) ⟨rfl, hI, fun σ1 hI1 hu => ⟨_, rfl, _, k_N_dry (l := l) (X := X) (a := a) hW, Eq.mpr (q_N_dry (oo := 82)) ⟨rfl, ⟨(hA.up hu).1, fun σ2 hf => ⟨rfl, _, _, hW, hB, (hI1.lo (hf.lo (by decide))).more (Nat.le_succ _), (hA.up hu).fr hf (fun _ h => h)⟩⟩⟩⟩⟩⟩
theorem lp_wish {l : Launch} {X : ra_X} {x0 x1 x2 : Int32} : lp l X mi_R_wish mi_N_wish [.int x0, .int x1, .int x2] := by
  intro n σ hj hn
  obtain ⟨a, b, hW, hB, hI, hA⟩ := hj
  exact ⟨_, k_R_wish (l := l) (X := X) (a := a) (b := b) (n := n), Eq.mpr (q_R_wish (oo := 0)) ⟨rfl, hI, fun σ1 hI1 hu => ⟨_, rfl, _, k_N_wish (l := l) (X := X) (a := a) (b := b), Eq.mpr (q_N_wish (oo := 82)) ⟨rfl, ⟨(hA.up hu), fun σ2 hA2 hlo => ⟨rfl, _, _, ab_wish_W hW _ _ _, hB, hI1.lo hlo, hA2⟩⟩⟩⟩⟩⟩
theorem lp_want {l : Launch} {X : ra_X} {x0 x1 : Int32} : lp l X mi_R_want mi_N_want [.int x0, .int x1] := by
  intro n σ hj hn
  obtain ⟨a, b, hW, hB, hI, hA⟩ := hj
  exact ⟨_, k_R_want (l := l) (X := X) (a := a) (b := b) (n := n) hW, Eq.mpr (q_R_want (oo := 0)) ⟨rfl, hI, ⟨_, rfl, _, k_N_want (l := l) (X := X) (a := a) hW, Eq.mpr (q_N_want (oo := 82)) ⟨rfl, ⟨hA.1, fun σ2 hf => ⟨rfl, _, _, hW, hB, (hI.lo (hf.lo (by decide))).more (Nat.le_succ _), hA.fr hf (fun _ h => h)⟩⟩⟩⟩⟩⟩
theorem lp_market {l : Launch} {X : ra_X} {x0 : Int32} : lp l X mi_R_market mi_N_market [.int x0] := by
  intro n σ hj hn
  obtain ⟨a, b, hW, hB, hI, hA⟩ := hj
  exact ⟨_, k_R_market (l := l) (X := X) (a := a) (b := b) (n := n) hn hW, Eq.mpr (q_R_market (oo := 0)) ⟨rfl, hI, fun σ1 hI1 hu => ⟨_, rfl, _, k_N_market (l := l) (X := X) (a := a) hW, Eq.mpr (q_N_market (oo := 82)) ⟨rfl, ⟨(hA.up hu).1, fun σ2 hf => ⟨rfl, _, _, hW, hB, (hI1.lo (hf.lo (by decide))).more (Nat.le_succ _), (hA.up hu).fr hf (fun _ h => h)⟩⟩⟩⟩⟩⟩
theorem lp_best {l : Launch} {X : ra_X} {x0 : Int32} : lp l X mi_R_best mi_N_best [.int x0] := by
  intro n σ hj hn
  obtain ⟨a, b, hW, hB, hI, hA⟩ := hj
  exact ⟨_, k_R_best (l := l) (X := X) (a := a) (b := b) (n := n) hn hW, Eq.mpr (q_R_best (oo := 0)) ⟨rfl, hI, fun σ1 hI1 hu => ⟨_, rfl, _, k_N_best (l := l) (X := X) (a := a) hW, Eq.mpr (q_N_best (oo := 82)) ⟨rfl, ⟨(hA.up hu).1, fun σ2 hf => ⟨rfl, _, _, hW, hB, (hI1.lo (hf.lo (by decide))).more (Nat.le_succ _), (hA.up hu).fr hf (fun _ h => h)⟩⟩⟩⟩⟩⟩
theorem lp_fact {l : Launch} {X : ra_X} {x0 x1 x2 : Int32} : lp l X mi_R_fact mi_N_fact [.int x0, .int x1, .int x2] := by
  intro n σ hj hn
  obtain ⟨a, b, hW, hB, hI, hA⟩ := hj
  exact ⟨_, k_R_fact (l := l) (X := X) (a := a) (b := b) (n := n) hW, Eq.mpr (q_R_fact (oo := 0)) ⟨rfl, hI, fun σ1 hI1 hu => ⟨_, rfl, _, k_N_fact (l := l) (X := X) (a := a) (b := b) hW, Eq.mpr (q_N_fact (oo := 82)) ⟨rfl, ⟨(hA.up hu), fun σ2 hA2 hlo => ⟨rfl, _, _, ab_fact_W hW _ _ _, hB, hI1.lo hlo, hA2⟩⟩⟩⟩⟩⟩
theorem lp_forget {l : Launch} {X : ra_X} : lp l X mi_R_forget mi_N_forget [] := by
  intro n σ hj hn
  obtain ⟨a, b, hW, hB, hI, hA⟩ := hj
  exact ⟨_, k_R_forget (l := l) (X := X) (a := a) (b := b) (n := n), Eq.mpr (q_R_forget (oo := 0)) ⟨rfl, hI, fun σ1 hI1 hu => ⟨_, rfl, _, k_N_forget (l := l) (X := X) (a := a) (b := b), Eq.mpr (q_N_forget (oo := 82)) ⟨rfl, ⟨(hA.up hu), fun σ2 hA2 hlo => ⟨rfl, _, _, ab_forget_W hW, hB, hI1.lo hlo, hA2⟩⟩⟩⟩⟩⟩
theorem lp_could {l : Launch} {X : ra_X} {x0 : Int32} : lp l X mi_R_could mi_N_could [.int x0] := by
  intro n σ hj hn
  obtain ⟨a, b, hW, hB, hI, hA⟩ := hj
  exact ⟨_, k_R_could (l := l) (X := X) (a := a) (b := b) (n := n) hn hW, Eq.mpr (q_R_could (oo := 0)) ⟨rfl, hI, fun σ1 hI1 hu => ⟨_, rfl, _, k_N_could (l := l) (X := X) (a := a) hW, Eq.mpr (q_N_could (oo := 82)) ⟨rfl, ⟨(hA.up hu).1, fun σ2 hf => ⟨rfl, _, _, hW, hB, (hI1.lo (hf.lo (by decide))).more (Nat.le_succ _), (hA.up hu).fr hf (fun _ h => h)⟩⟩⟩⟩⟩⟩
theorem lp_ask {l : Launch} {X : ra_X} {x0 : Int32} : lp l X mi_R_ask mi_N_ask [.int x0] := by
  intro n σ hj hn
  obtain ⟨a, b, hW, hB, hI, hA⟩ := hj
  exact ⟨_, k_R_ask (l := l) (X := X) (a := a) (b := b) (n := n) hn hW, Eq.mpr (q_R_ask (oo := 0)) ⟨rfl, hI, fun σ1 hI1 hu => ⟨_, rfl, _, k_N_ask (l := l) (X := X) (a := a) hW, Eq.mpr (q_N_ask (oo := 82)) ⟨rfl, ⟨(hA.up hu).1, fun σ2 hf => ⟨rfl, _, _, hW, hB, (hI1.lo (hf.lo (by decide))).more (Nat.le_succ _), (hA.up hu).fr hf (fun _ h => h)⟩⟩⟩⟩⟩⟩
theorem lp_hands {l : Launch} {X : ra_X} {x0 x1 : Int32} : lp l X mi_R_hands mi_N_hands [.int x0, .int x1] := by
  intro n σ hj hn
  obtain ⟨a, b, hW, hB, hI, hA⟩ := hj
  exact ⟨_, k_R_hands (l := l) (X := X) (a := a) (b := b) (n := n) hW, Eq.mpr (q_R_hands (oo := 0)) ⟨rfl, hI, fun σ1 hI1 hu => ⟨_, rfl, _, k_N_hands (l := l) (X := X) (a := a) hW, Eq.mpr (q_N_hands (oo := 82)) ⟨rfl, ⟨(hA.up hu).1, fun σ2 hf => ⟨rfl, _, _, hW, hB, (hI1.lo (hf.lo (by decide))).more (Nat.le_succ _), (hA.up hu).fr hf (fun _ h => h)⟩⟩⟩⟩⟩⟩
theorem lp_claim {l : Launch} {X : ra_X} {x0 x1 : Int32} : lp l X mi_R_claim mi_N_claim [.int x0, .int x1] := by
  intro n σ hj hn
  obtain ⟨a, b, hW, hB, hI, hA⟩ := hj
  exact ⟨_, k_R_claim (l := l) (X := X) (a := a) (b := b) (n := n), Eq.mpr (q_R_claim (oo := 0)) ⟨rfl, hI, fun σ1 hI1 hu => ⟨_, rfl, _, k_N_claim (l := l) (X := X) (a := a) (b := b), Eq.mpr (q_N_claim (oo := 82)) ⟨rfl, ⟨(hA.up hu), fun σ2 hA2 hlo => ⟨rfl, _, _, hW, bb_claim_W hB _ _, hI1.lo hlo, hA2⟩⟩⟩⟩⟩⟩
theorem lp_liars {l : Launch} {X : ra_X} : lp l X mi_R_liars mi_N_liars [] := by
  intro n σ hj hn
  obtain ⟨a, b, hW, hB, hI, hA⟩ := hj
  exact ⟨_, k_R_liars (l := l) (X := X) (a := a) (b := b) (n := n) hn hW, Eq.mpr (q_R_liars (oo := 0)) ⟨rfl, hI, fun σ1 hI1 hu => ⟨_, rfl, _, k_N_liars (l := l) (X := X) (a := a) (b := b) hW, Eq.mpr (q_N_liars (oo := 82)) ⟨rfl, ⟨(hA.up hu), fun σ2 hf => ⟨rfl, _, _, hW, hB, (hI1.lo (hf.lo (by decide))).more (Nat.le_succ _), (hA.up hu).fr hf (fun _ h => h)⟩⟩⟩⟩⟩⟩
theorem lp_sheet {l : Launch} {X : ra_X} {x0 x1 x2 : Int32} : lp l X mi_R_sheet mi_N_sheet [.int x0, .int x1, .int x2] := by
  intro n σ hj hn
  obtain ⟨a, b, hW, hB, hI, hA⟩ := hj
  exact ⟨_, k_R_sheet (l := l) (X := X) (a := a) (b := b) (n := n), Eq.mpr (q_R_sheet (oo := 0)) ⟨rfl, hI, hB, fun σ1 hI1 hu => ⟨_, rfl, _, k_N_sheet (l := l) (X := X) (a := a) (b := b), Eq.mpr (q_N_sheet (oo := 82)) ⟨rfl, ⟨(hA.up hu), fun σ2 hA2 hlo => ⟨rfl, _, _, hW, bb_sheet_W hB _ _ _, hI1.lo hlo, hA2⟩⟩⟩⟩⟩⟩
theorem lp_lose {l : Launch} {X : ra_X} {x0 : Int32} : lp l X mi_R_lose mi_N_lose [.int x0] := by
  intro n σ hj hn
  obtain ⟨a, b, hW, hB, hI, hA⟩ := hj
  exact ⟨_, k_R_lose (l := l) (X := X) (a := a) (b := b) (n := n), Eq.mpr (q_R_lose (oo := 0)) ⟨rfl, hI, hB, fun σ1 hI1 hu => ⟨_, rfl, _, k_N_lose (l := l) (X := X) (a := a) (b := b), Eq.mpr (q_N_lose (oo := 82)) ⟨rfl, ⟨(hA.up hu), fun σ2 hA2 hlo => ⟨rfl, _, _, hW, bb_lose_W hB _, hI1.lo hlo, hA2⟩⟩⟩⟩⟩⟩
theorem lp_put {l : Launch} {X : ra_X} {x0 x1 x2 x3 : Int32} : lp l X mi_R_put mi_N_put [.int x0, .int x1, .int x2, .int x3] := by
  intro n σ hj hn
  obtain ⟨a, b, hW, hB, hI, hA⟩ := hj
  exact ⟨_, k_R_put (l := l) (X := X) (a := a) (b := b) (n := n), Eq.mpr (q_R_put (oo := 0)) ⟨rfl, hI, hB, fun σ1 hI1 hu => ⟨_, rfl, _, k_N_put (l := l) (X := X) (a := a) (b := b) hB, Eq.mpr (q_N_put (oo := 82)) ⟨rfl, ⟨(hA.up hu), fun σ2 hA2 hlo => ⟨rfl, _, _, hW, bb_put_W hB _ _ _ _, hI1.lo hlo, hA2⟩⟩⟩⟩⟩⟩
theorem lp_get {l : Launch} {X : ra_X} {x0 x1 x2 : Int32} : lp l X mi_R_get mi_N_get [.int x0, .int x1, .int x2] := by
  intro n σ hj hn
  obtain ⟨a, b, hW, hB, hI, hA⟩ := hj
  exact ⟨_, k_R_get (l := l) (X := X) (a := a) (b := b) (n := n), Eq.mpr (q_R_get (oo := 0)) ⟨rfl, hI, hB, fun σ1 hI1 hu => ⟨_, rfl, _, k_N_get (l := l) (X := X) (a := a) (b := b) hB, Eq.mpr (q_N_get (oo := 82)) ⟨rfl, ⟨(hA.up hu), fun σ2 hA2 hlo => ⟨rfl, _, _, hW, bb_get_W hB _ _ _, hI1.lo hlo, hA2⟩⟩⟩⟩⟩⟩
theorem lp_copy {l : Launch} {X : ra_X} {x0 x1 x2 x3 x4 : Int32} : lp l X mi_R_copy mi_N_copy [.int x0, .int x1, .int x2, .int x3, .int x4] := by
  intro n σ hj hn
  obtain ⟨a, b, hW, hB, hI, hA⟩ := hj
  exact ⟨_, k_R_copy (l := l) (X := X) (a := a) (b := b) (n := n), Eq.mpr (q_R_copy (oo := 0)) ⟨rfl, hI, hB, fun σ1 hI1 hu => ⟨_, rfl, _, k_N_copy (l := l) (X := X) (a := a) (b := b) hB, Eq.mpr (q_N_copy (oo := 82)) ⟨rfl, ⟨(hA.up hu), fun σ2 hA2 hlo => ⟨rfl, _, _, hW, bb_copy_W hB _ _ _ _ _, hI1.lo hlo, hA2⟩⟩⟩⟩⟩⟩
theorem lp_write {l : Launch} {X : ra_X} {x0 : Int32} : lp l X mi_R_write mi_N_write [.int x0] := by
  intro n σ hj hn
  obtain ⟨a, b, hW, hB, hI, hA⟩ := hj
  exact ⟨_, k_R_write (l := l) (X := X) (a := a) (b := b) (n := n) hn hW, Eq.mpr (q_R_write (oo := 0)) ⟨rfl, hI, hB, fun σ1 hI1 hu => ⟨_, rfl, _, k_N_write (l := l) (X := X) (a := a) (b := b) hW hB, Eq.mpr (q_N_write (oo := 82)) ⟨rfl, ⟨(hA.up hu), fun σ2 hA2 hlo => ⟨rfl, _, _, hW, bb_write_W hB _, hI1.lo hlo, hA2⟩⟩⟩⟩⟩⟩
theorem lp_count {l : Launch} {X : ra_X} {x0 : Int32} : lp l X mi_R_count mi_N_count [.int x0] := by
  intro n σ hj hn
  obtain ⟨a, b, hW, hB, hI, hA⟩ := hj
  exact ⟨_, k_R_count (l := l) (X := X) (a := a) (b := b) (n := n), Eq.mpr (q_R_count (oo := 0)) ⟨rfl, hI, ⟨_, rfl, _, k_N_count (l := l) (X := X) (a := a) (b := b) hW, Eq.mpr (q_N_count (oo := 82)) ⟨rfl, ⟨hA, fun σ2 hf => ⟨rfl, _, _, hW, hB, (hI.lo (hf.lo (by decide))).more (Nat.le_succ _), hA.fr hf (fun _ h => h)⟩⟩⟩⟩⟩⟩
theorem lp_digest {l : Launch} {X : ra_X} : lpJ l X mi_R_digest mi_N_digest [] := by
  intro n σ hj hn
  obtain ⟨a, b, hW, hB, hI, hA⟩ := hj
  exact ⟨_, k_R_digest (l := l) (X := X) (a := a) (b := b) (n := n) hn hW, Eq.mpr (q_R_digest (oo := 0)) ⟨rfl, hI, fun σ1 hI1 hu => ⟨_, rfl, _, k_N_digest (l := l) (X := X) (a := a) (b := b) hW, Eq.mpr (q_N_digest (oo := 82)) ⟨rfl, ⟨(hA.up hu), fun σ2 hf => ⟨rfl, _, _, hW, hB, (hI1.lo (hf.lo (by decide))).more (Nat.le_succ _), (hA.up hu).fr hf (fun _ h => h)⟩⟩⟩⟩⟩⟩
