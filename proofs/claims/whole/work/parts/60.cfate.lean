/-! a roof's fate hangs on the nearest owner up its chain that bears no grudge -/
def ft (a : Ab) (te te' : Nat → Nat) (k x : Nat) : Prop := (sm a te k).1 x = (sm a te' k).1 x ∧ (sm a te k).2.1 (ab_on a x) = (sm a te' k).2.1 (ab_on a x) ∧ (sm a te k).2.2.1 x = (sm a te' k).2.2.1 x ∧ (sm a te k).2.2.2.2 x = (sm a te' k).2.2.2.2 x
theorem ft_lay {a : Ab} {te te' : Nat → Nat} {k x : Nat} (h : ft a te te' k x) (e : te (ab_on a x) = te' (ab_on a x)) (hg : te (ab_on a x) = 1 → ft a te te' k (ab_on a x)) : sm_lay a te (a 4 k) (sm a te k) x = sm_lay a te' (a 4 k) (sm a te' k) x := by
  unfold sm_lay
  rw [h.1, h.2.1, ← e]
  by_cases q : te (ab_on a x) = 1
  · have g := hg q
    rw [g.1, g.2.2.2]
  · rw [if_neg q, if_neg q]
theorem ft_step {a : Ab} {te te' : Nat → Nat} {k x : Nat} (hx : x < ab_hc a) (h : ft a te te' k x) (e : te (ab_on a x) = te' (ab_on a x)) (hg : te (ab_on a x) = 1 → ft a te te' k (ab_on a x)) : ft a te te' (k + 1) x := by
  have hl := ft_lay h e hg
  obtain ⟨s1, -, -⟩ := sm_s (a := a) (te := te) (k := k) (j := x)
  obtain ⟨-, s2, -⟩ := sm_s (a := a) (te := te) (k := k) (j := ab_on a x)
  obtain ⟨t1, -, -⟩ := sm_s (a := a) (te := te') (k := k) (j := x)
  obtain ⟨-, t2, -⟩ := sm_s (a := a) (te := te') (k := k) (j := ab_on a x)
  rw [(ab_on_spec hx).2] at s2 t2
  have hl2 : sl a te k x = sl a te' k x := hl
  refine ⟨?_, ?_, ?_, hl⟩
  · rw [s1, t1, hl2, h.1]
  · rw [s2, t2, hl2, h.2.1]
  · show (sm a te k).2.2.1 x + (a 4 k - (sm a te k).1 x) = (sm a te' k).2.2.1 x + (a 4 k - (sm a te' k).1 x)
    rw [h.1, h.2.2.1]
theorem ft_0 (a : Ab) (te te' : Nat → Nat) (x : Nat) : ft a te te' 0 x := ⟨rfl, rfl, rfl, rfl⟩
theorem ft_one {a : Ab} {te te' : Nat → Nat} {x : Nat} (hx : x < ab_hc a) (e : te (ab_on a x) = te' (ab_on a x)) (hg : te (ab_on a x) = 1 → ∀ k, ft a te te' k (ab_on a x)) : ∀ k, ft a te te' k x
  | 0 => ft_0 _ _ _ _
  | k + 1 => ft_step hx (ft_one hx e hg k) e (fun q => hg q k)
theorem ft_all {a : Ab} {te te' : Nat → Nat} {B : Nat} (hcl : rc_cl a B) (e : ∀ x, x < ab_hc a → B.testBit x = true → te x = te' x) : ∀ k x, x < ab_hc a → B.testBit x = true → ft a te te' k x
  | 0, x, _, _ => ft_0 _ _ _ _
  | k + 1, x, hx, hb => by
    have h1 := (ab_on_spec hx).1
    have h2 := (hcl x hx hb).1
    exact ft_step hx (ft_all hcl e k x hx hb) (e _ h1 h2) (fun _ => ft_all hcl e k _ h1 h2)
noncomputable def up (a : Ab) (x : Nat) : Nat → Nat
  | 0 => x
  | j + 1 => ab_on a (up a x j)
theorem up_lt {a : Ab} {x : Nat} (hx : x < ab_hc a) : ∀ j, up a x j < ab_hc a
  | 0 => hx
  | j + 1 => (ab_on_spec (up_lt hx j)).1
theorem up_s (a : Ab) (x : Nat) : ∀ j, up a (ab_on a x) j = up a x (j + 1)
  | 0 => rfl
  | j + 1 => by rw [up, up_s a x j]; rfl
theorem ft_up {a : Ab} {te te' : Nat → Nat} : ∀ (j x : Nat), x < ab_hc a → (∀ i, i ≤ j → te (up a x (i + 1)) = te' (up a x (i + 1))) → te (up a x (j + 1)) ≠ 1 → ∀ k, ft a te te' k x
  | 0, x, hx, e, hn => ft_one hx (e 0 (by omega)) (fun q => absurd q hn)
  | j + 1, x, hx, e, hn => by
    have h1 := (ab_on_spec hx).1
    refine ft_one hx (e 0 (by omega)) (fun _ => ft_up j _ h1 (fun i hi => ?_) ?_)
    · rw [up_s]
      exact e (i + 1) (by omega)
    · rw [up_s]
      exact hn
theorem up_it {a : Ab} {x : Nat} (hx : x < ab_hc a) : ∀ i, i ≤ n_pop (ab_ring a x) → up a x i = it a x (n_pop (ab_ring a x) - i)
  | 0, _ => (ring_cyc hx).2.1.symm
  | i + 1, h => by
    rw [up, up_it hx i (by omega), show n_pop (ab_ring a x) - i = (n_pop (ab_ring a x) - (i + 1)) + 1 by omega, it, ab_on_ow (it_lt hx _)]
theorem up_ring {a : Ab} {x : Nat} (hx : x < ab_hc a) {y : Nat} (hy : (ab_ring a x).testBit y = true) : ∃ i, i < n_pop (ab_ring a x) ∧ up a x (i + 1) = y := by
  obtain ⟨h1, h2, h3⟩ := ring_cyc hx
  obtain ⟨j, k1, k2⟩ := (h3 y).mp hy
  refine ⟨n_pop (ab_ring a x) - j - 1, by omega, ?_⟩
  rw [up_it hx _ (by omega), show n_pop (ab_ring a x) - (n_pop (ab_ring a x) - j - 1 + 1) = j by omega, k2]
theorem up_in {a : Ab} {B x : Nat} (hcl : rc_cl a B) (hx : x < ab_hc a) (hb : B.testBit x = true) : ∀ j, B.testBit (up a x j) = true
  | 0 => hb
  | j + 1 => (hcl _ (up_lt hx j) (up_in hcl hx hb j)).1
theorem rc_cl_ring {a : Ab} {g : Nat} (hg : g < ab_hc a) : rc_cl a (ab_ring a g) := fun _ _ hb => ⟨ring_on hg hb, ring_ow hg hb⟩
/-- one temper among grudges -/
def mg (h t : Nat) : Nat → Nat := fun j => if j = h then t else 1
theorem mg_fate {a : Ab} {g x j : Nat} {te : Nat → Nat} (hg : g < ab_hc a) (hx : x < ab_hc a) (hb : (ab_ring a g).testBit x = true) (hj : j < n_pop (ab_ring a g)) (h1 : ∀ i, i < j → te (up a x (i + 1)) = 1) (h2 : j + 1 = n_pop (ab_ring a g) ∨ te (up a x (j + 1)) ≠ 1) (k : Nat) : (sm a te k).2.2.1 x = (sm a (mg (up a x (j + 1)) (te (up a x (j + 1)))) k).2.2.1 x := by
  by_cases q : te (up a x (j + 1)) = 1
  · have hjp : j + 1 = n_pop (ab_ring a g) := h2.resolve_right (fun z => z q)
    rw [q]
    refine (ft_all (rc_cl_ring hg) (fun y hy hyb => ?_) k x hx hb).2.2.1
    have e1 : te y = 1 := by
      rw [← ring_same hg hb] at hyb hjp
      obtain ⟨i, i1, i2⟩ := up_ring hx hyb
      rcases (show i < j ∨ i = j by omega) with z | rfl
      · rw [← i2]
        exact h1 i z
      · rw [← i2]
        exact q
    rw [e1]
    unfold mg
    split <;> rfl
  · refine (ft_up j x hx (fun i hi => ?_) q k).2.2.1
    unfold mg
    rcases (show i < j ∨ i = j by omega) with z | rfl
    · have e1 := h1 i z
      rw [e1, if_neg]
      intro e
      rw [e] at e1
      exact q e1
    · rw [if_pos rfl]
theorem cw_pop {a : Ab} {B : Nat} (hB : ∀ r, B.testBit r = true → r < ab_hc a) : cw B (ab_hc a) = n_pop B := by
  have h8 := ab_hc_8 a
  obtain ⟨m, hm⟩ : ∃ m, ab_hc a + m = 8 := ⟨8 - ab_hc a, by omega⟩
  unfold cw n_pop
  rw [← hm, fb_ct_split]
  have h2 : fb_ct (fun k => B.testBit (ab_hc a + k)) m = 0 := fb_ct_zero.mpr (fun k _ => by
    cases e : B.testBit (ab_hc a + k) with
    | false => rfl
    | true => have := hB _ e; omega)
  omega
theorem cw_ring {a : Ab} {g : Nat} (hg : g < ab_hc a) : cw (ab_ring a g) (ab_hc a) = n_pop (ab_ring a g) := cw_pop (fun _ hr => ring_lt hg hr)
theorem cw_lt {a : Ab} {B h : Nat} (hh : h < ab_hc a) (hb : B.testBit h = true) : cw B h < cw B (ab_hc a) := fb_ct_lt' hh hb
theorem cw_inj {B h i : Nat} (hb : B.testBit h = true) (hi : B.testBit i = true) (e : cw B h = cw B i) : h = i := fb_ct_inj' hb hi e
theorem dr_te_cw {a : Ab} {B code h : Nat} (hb : B.testBit h = true) : dr_te a B code h = code / 4 ^ (cw B (ab_hc a) - (cw B h + 1)) % 4 := by
  unfold dr_te
  rw [if_pos hb, fb_ct_succ, if_pos hb]
  rfl
