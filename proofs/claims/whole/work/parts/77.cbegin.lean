/-! the law's beginning -/
theorem arrV_cg {cA : ClassId} {n : Nat} {f g : Nat → Value} (h : ∀ i, i < n → f i = g i) : arrV cA n f = arrV cA n g := by
  have e : (fun j : Fin n => f j.val) = fun j : Fin n => g j.val := by
    funext j
    exact h j.val j.isLt
  unfold arrV
  rw [e]
section XB
variable {D : va_G} {kc : Nat → ClassId} {h0 : Nat} {u : Nat → Nat → Nat} {h1 : Nat} {v : Nat → Nat} {t : Nat × Nat} {H : Heap} {A : Nat → Prop}
theorem xw_P (h : va_P D ra_cl (w_Ri kc h0 u ++ w_Ni kc h1 v) H) : va_P D ra_cl (ra_wl (xX D kc h0 u h1 v t) σ0) H := by
  rw [xw_eq] at h
  intro k q hk
  have lk := ra_wl_lt hk
  rw [ra_wl_get _ σ0 lk] at hk
  cases hk
  obtain ⟨e, g1, g2⟩ := xall_of (xp_all (D := D) (kc := kc) (h0 := h0) (u := u) (h1 := h1) (v := v) (t := t)) k lk
  have g3 := h k _ g1
  rcases g2 with rfl | ⟨cA, n, f, g, rfl, hg, hfg⟩
  · exact g3
  · rw [hg]
    show H[_]? = some (vp_cell cA (n, _))
    have g4 : H[(xX D kc h0 u h1 v t).1 k]? = some (vp_cell cA (n, .inr (.inr (.inr (.inr f))))) := g3
    rw [g4, vp_cell_q, vp_cell_q, arrV_cg (fun i hi => by rw [hfg i hi])]
theorem xw_get {k : Nat} (lk : k < ra_NC) : ∃ e, (xw kc h0 u h1 v)[k]? = some ((xX D kc h0 u h1 v t).1 k, e) := by
  obtain ⟨e, g1, -⟩ := xall_of (xp_all (D := D) (kc := kc) (h0 := h0) (u := u) (h1 := h1) (v := v) (t := t)) k lk
  exact ⟨e, g1⟩
theorem xw_inj (h : va_D A (w_Ri kc h0 u ++ w_Ni kc h1 v)) : ra_inj (xX D kc h0 u h1 v t) := by
  rw [xw_eq] at h
  intro i j hi hj e
  obtain ⟨e1, g1⟩ := xw_get (D := D) (kc := kc) (h0 := h0) (u := u) (h1 := h1) (v := v) (t := t) hi
  obtain ⟨e2, g2⟩ := xw_get (D := D) (kc := kc) (h0 := h0) (u := u) (h1 := h1) (v := v) (t := t) hj
  exact h.1 i j _ _ g1 g2 e
theorem xw_A (h : va_D A (w_Ri kc h0 u ++ w_Ni kc h1 v)) : ∀ q, ra_A (xX D kc h0 u h1 v t) q → A q := by
  rw [xw_eq] at h
  rintro q ⟨k, lk, rfl⟩
  obtain ⟨e1, g1⟩ := xw_get (D := D) (kc := kc) (h0 := h0) (u := u) (h1 := h1) (v := v) (t := t) lk
  exact h.2 k _ g1
end XB
/-! nothing told yet -/
def ab0 : Ab := fun i j => if i = 5 ∧ j = 0 then 1 else 0
def bb0 : Bb := fun i _ => if i = 0 then -1 else 0
theorem ab0_hc : ab_hc ab0 = 0 := by decide +kernel
theorem lt8 {i : Nat} (h : i < 8) : i = 0 ∨ i = 1 ∨ i = 2 ∨ i = 3 ∨ i = 4 ∨ i = 5 ∨ i = 6 ∨ i = 7 := by omega
theorem lj0 : lj 0 σ0 := by
  refine ⟨ab0, bb0, ?_, ?_, ?_, ?_⟩
  · refine ⟨by decide +kernel, by decide +kernel, fun i => ?_, fun i => ?_, by decide +kernel, fun i => ?_, by decide +kernel, by decide +kernel, by decide +kernel, fun i => ?_, by decide +kernel, fun i => ?_, fun i => ?_, fun i => ?_⟩ <;> simp [ab0]
  · intro s hs
    exact ⟨Or.inl rfl, ⟨0, by decide, rfl⟩, 0, by decide, rfl⟩
  · refine ⟨⟨⟨by decide +kernel, by decide +kernel, by decide +kernel, by decide +kernel, fun i hi => absurd hi (Nat.not_lt_zero _), fun i hi => absurd hi (Nat.not_lt_zero _)⟩, ⟨by rw [ab0_hc]; decide +kernel, fun h hh => absurd hh (by rw [ab0_hc]; exact Nat.not_lt_zero _)⟩, by decide +kernel, by decide +kernel, fun h hh => absurd hh (by rw [ab0_hc]; exact Nat.not_lt_zero _)⟩, ⟨by decide +kernel, fun i hi => absurd hi (Nat.not_lt_zero _), by decide +kernel, by decide +kernel⟩, ?_, ⟨by decide +kernel, fun i hi => absurd hi (Nat.not_lt_zero _)⟩, ⟨?_, by decide +kernel, ?_⟩, 0, 0, 0, 0, by decide +kernel, ⟨by decide +kernel, by decide +kernel, by decide +kernel, by decide +kernel⟩, Or.inl (by decide +kernel), Or.inl (by decide +kernel), Or.inl (by decide +kernel), Or.inl (by decide +kernel), Or.inl (by decide +kernel)⟩
    · intro h r hh hr
      rcases lt8 hh with rfl | rfl | rfl | rfl | rfl | rfl | rfl | rfl <;> rfl
    · intro h hh
      rcases lt8 hh with rfl | rfl | rfl | rfl | rfl | rfl | rfl | rfl <;> decide +kernel
    · intro s hs
      refine ⟨fun _ => ?_, fun q => ?_⟩
      · rcases (show s = 0 ∨ s = 1 ∨ s = 2 ∨ s = 3 by omega) with rfl | rfl | rfl | rfl <;> decide +kernel
      · have q1 : (0 : Int32) = 1 := q
        exact absurd q1 (by decide)
  · refine ⟨⟨⟨by decide +kernel, by decide +kernel, fun i hi => absurd hi (Nat.not_lt_zero _), fun i hi => absurd hi (Nat.not_lt_zero _)⟩, by decide +kernel, fun i hi => absurd hi (Nat.not_lt_zero _), by decide +kernel, by decide +kernel, fun i hi => ?_, by decide +kernel, fun i hi => absurd hi (Nat.not_lt_zero _)⟩, ⟨fun h hh => ?_, fun s hs => ⟨?_, ?_, ?_⟩, fun i hi => ?_, by decide +kernel⟩⟩
    · rfl
    · rcases lt8 hh with rfl | rfl | rfl | rfl | rfl | rfl | rfl | rfl <;> decide +kernel
    · rfl
    · rfl
    · rfl
    · rfl
/-! what the tables say -/
section KNOW
variable {s : State} {args : Array Value}
theorem kn1 (hts : ∀ w ∈ ra_WS, w.before args s = true) {ci N : Nat} {C : String} {T : u_T} {ty : Nat → FieldType} (G : ra_CF ci N C T ty) (hj : Cond.instantiable C N ∈ ra_WS) : ∃ d : ClassId × (Nat → Nat), ∀ q : vw_C, ra_cl[ci]? = some q → u_Kn s q.1 q.2.1 q.2.2 d.1 d.2 := by
  obtain ⟨c, iS, h⟩ := u_known hts G.2.1 (hts _ hj)
  refine ⟨(c, iS), fun q hq => ?_⟩
  rw [G.1] at hq
  cases hq
  exact h
theorem kn_all (hts : ∀ w ∈ ra_WS, w.before args s = true) : ∃ D : va_G, ∀ (ci : Nat) (q : vw_C), ra_cl[ci]? = some q → u_Kn s q.1 q.2.1 q.2.2 (D.1 ci) (D.2 ci) := by
  have h0 : ∀ ci : Nat, ∃ d : ClassId × (Nat → Nat), ∀ q : vw_C, ra_cl[ci]? = some q → u_Kn s q.1 q.2.1 q.2.2 d.1 d.2 := by
    intro ci
    by_cases hc : ci < 12
    · rcases (show ci = 0 ∨ ci = 1 ∨ ci = 2 ∨ ci = 3 ∨ ci = 4 ∨ ci = 5 ∨ ci = 6 ∨ ci = 7 ∨ ci = 8 ∨ ci = 9 ∨ ci = 10 ∨ ci = 11 by omega) with rfl | rfl | rfl | rfl | rfl | rfl | rfl | rfl | rfl | rfl | rfl | rfl
      · exact kn1 hts cg_R jn_Ri
      · exact kn1 hts cg_V jn_Vi
      · exact kn1 hts cg_T jn_Ti
      · exact kn1 hts cg_Wt jn_Wti
      · exact kn1 hts cg_Co jn_Coi
      · exact kn1 hts cg_So jn_Soi
      · exact kn1 hts cg_Mo jn_Moi
      · exact kn1 hts cg_Ex jn_Exi
      · exact kn1 hts cg_Kn jn_Kni
      · exact kn1 hts cg_He jn_Hei
      · exact kn1 hts cg_Sh jn_Shi
      · exact kn1 hts cg_N jn_Ni
    · refine ⟨(0, fun _ => 0), fun q hq => ?_⟩
      rw [List.getElem?_eq_none (by show 12 ≤ ci; omega)] at hq
      cases hq
  obtain ⟨f, hf⟩ := Classical.axiomOfChoice h0
  exact ⟨(fun ci => (f ci).1, fun ci => (f ci).2), fun ci q hq => hf ci q hq⟩
theorem kn_arr {ty : FieldType} (hts : ∀ w ∈ ra_WS, w.before args s = true) (hw : Cond.arrayClass ty ∈ ra_WS) (hne : ∀ C, ty ≠ .object C) : ∃ cA, ArrOfT s cA ty ∧ va_RA s cA ty := by
  obtain ⟨c, k, comp, h1, h2, h3⟩ := Cond.arrayClass_spec (hts _ hw)
  refine ⟨c, fun N z => ⟨(fun k h => by cases h), k, h2, comp, h3⟩, ?_⟩
  cases ty with
  | object C => exact absurd rfl (hne C)
  | _ => exact h1
theorem kn_sheet {C : String} (h : (Cond.arrayOver (.object C)).before args s = true) : ∃ cA, ArrOfT s cA (.object C) ∧ va_RA s cA (.object C) := by
  obtain ⟨comp, c, k, h1, -, h2, h3, h4⟩ := Cond.arrayOver_spec h
  exact ⟨c, fun N z => ⟨(fun k h => by cases h), k, h2, comp, h3⟩, k, comp, h2, h3, h1, h4⟩
theorem kn_rows (h : (Cond.arrayOver (.array .int)).before args s = true) : ∃ cA, ArrOfT s cA (.array .int) ∧ va_RA s cA (.array .int) := by
  obtain ⟨comp, c, k, -, h2, h3, h4⟩ := Cond.arrayOver_specA h
  exact ⟨c, fun N z => ⟨(fun k h => by cases h), k, h2, comp, h3⟩, h4⟩
theorem kn_K (hts : ∀ w ∈ ra_WS, w.before args s = true) (hr : (Cond.arrayOver (.array .int)).before args s = true) (hq : (Cond.arrayOver (.object "RoofAcross$Sheet")).before args s = true) : ∃ (D : va_G) (kc : Nat → ClassId), va_K D ra_cl (rz_ty kc) s := by
  obtain ⟨D, hD⟩ := kn_all hts
  obtain ⟨c0, g0⟩ := kn_arr hts jw_arrI (fun C h => by cases h)
  obtain ⟨c1, g1⟩ := kn_arr hts jw_arrZ (fun C h => by cases h)
  obtain ⟨c2, g2⟩ := kn_rows hr
  obtain ⟨c3, g3⟩ := kn_sheet hq
  refine ⟨D, fun k => [c0, c1, c2, c3].getD k c0, hD, fun k q hk => ?_⟩
  have lk : k < 4 := (List.getElem?_eq_some_iff.mp hk).1
  rcases (show k = 0 ∨ k = 1 ∨ k = 2 ∨ k = 3 by omega) with rfl | rfl | rfl | rfl <;> cases hk
  · exact g0
  · exact g1
  · exact g2
  · exact g3
end KNOW
