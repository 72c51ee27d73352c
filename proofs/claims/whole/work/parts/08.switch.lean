section RAW
variable {X : ra_X} {p : Program} {l : Launch} {e : Env} {R : Room} {s : State} {m : MethodId} {args : Array Value} {below : List Frame} {meth : Method} {c : Code} {nL : Nat} {Q : State → Prop} {cc : ByteArray} {own : String} {pc : Nat} {kd : ra_K}
theorem ra_go_spec {x : Int32} {K : Prop} : ∀ tb : List (Int32 × Prop), ra_go x K tb → (∃ (i : Nat) (v : Int32) (P : Prop), tb[i]? = some (v, P) ∧ x = v ∧ P) ∨ ((∀ (i : Nat) (q : Int32 × Prop), tb[i]? = some q → ¬ x = q.1) ∧ K)
  | [], h => Or.inr ⟨fun i q hq => by simp at hq, h⟩
  | q :: r, h => by
    by_cases hx : x = q.1
    · exact Or.inl ⟨0, q.1, q.2, rfl, hx, h.1 hx⟩
    · rcases ra_go_spec r (h.2 hx) with ⟨i, v, P, h1, h2, h3⟩ | ⟨h1, h2⟩
      · exact Or.inl ⟨i + 1, v, P, h1, h2, h3⟩
      · refine Or.inr ⟨fun i z hz => ?_, h2⟩
        cases i with
        | zero => cases hz; exact hx
        | succ i => exact h1 i z hz
/-- targets: for each row of a switch, its place -/
def ra_Ats (X : ra_X) (p : Program) (l : Launch) (e : Env) (R : Room) (s : State) (m : MethodId) (args : Array Value) (below : List Frame) (meth : Method) (c : Code) (nL : Nat) (Q : State → Prop) : List (Int32 × ra_K) → List Nat → Prop
  | [], [] => True
  | q :: r, t :: ts => ra_At X p l e R s m args below meth c nL Q q.2 t ∧ ra_Ats X p l e R s m args below meth c nL Q r ts
  | _, _ => False
theorem ra_Ats_get : ∀ (tb : List (Int32 × ra_K)) (ts : List Nat) (i : Nat) (q : Int32 × ra_K), ra_Ats X p l e R s m args below meth c nL Q tb ts → tb[i]? = some q → ∃ t, ts[i]? = some t ∧ ra_At X p l e R s m args below meth c nL Q q.2 t
  | [], [], i, q, _, h => by simp at h
  | [], _ :: _, i, q, h, _ => h.elim
  | _ :: _, [], i, q, h, _ => h.elim
  | a :: r, t :: ts, 0, q, h, hq => by
    cases hq
    exact ⟨t, rfl, h.1⟩
  | a :: r, t :: ts, i + 1, q, h, hq => ra_Ats_get r ts i q h.2 hq
theorem r_tsw (F : ra_Fx X p R s m args c cc nL own) {dflt lo hi : Int} {offs : Array Int} {len td : Nat} {tb : List (Int32 × ra_K)} {ts : List Nat} (hd : decode cc pc = .ok (.tableswitch dflt lo hi offs, len)) (hk : ra_Ats X p l e R s m args below meth c nL Q tb ts)
    (h1 : tb.map (fun q => q.1.toInt) = (List.range ts.length).map (fun i : Nat => lo + (i : Int))) (h2 : offs.toList.map (fun o => (pc : Int) + o) = ts.map (fun t : Nat => (t : Int))) (h3 : hi = lo + ts.length - 1) (ht : (pc : Int) + dflt = (td : Int)) (h : ra_At X p l e R s m args below meth c nL Q kd td) : ra_At X p l e R s m args below meth c nL Q (w_sw tb kd) pc := by
  intro L S σ H locs ls q hP hS hl
  unfold w_sw at q
  split at q
  · next x S =>
    have hlen : tb.length = ts.length := by
      have := congrArg List.length h1
      simpa using this
    have hval : ∀ (i : Nat) (z : Int32 × ra_K), tb[i]? = some z → z.1.toInt = lo + i := by
      intro i z hz
      have hi : i < ts.length := by rw [← hlen]; exact (List.getElem?_eq_some_iff.mp hz).1
      have h4 : (tb.map (fun q => q.1.toInt))[i]? = some z.1.toInt := by rw [List.getElem?_map, hz]; rfl
      rw [h1, List.getElem?_map, List.getElem?_range hi] at h4
      exact (Option.some.inj h4).symm
    rcases ra_go_spec _ q with ⟨i, v, P, g1, g2, g3⟩ | ⟨g1, g2⟩
    · rw [List.getElem?_map] at g1
      cases hz : tb[i]? with
      | none => rw [hz] at g1; cases g1
      | some z =>
        rw [hz] at g1
        cases g1
        obtain ⟨t, t1, t2⟩ := ra_Ats_get tb ts i z hk hz
        have hv := hval i z hz
        have hi : i < ts.length := (List.getElem?_eq_some_iff.mp t1).1
        subst g2
        have ho : ∃ o, offs[i]? = some o ∧ (pc : Int) + o = (t : Int) := by
          have h5 : (offs.toList.map (fun o => (pc : Int) + o))[i]? = some (t : Int) := by rw [h2, List.getElem?_map, t1]; rfl
          rw [List.getElem?_map, Array.getElem?_toList] at h5
          cases hoi : offs[i]? with
          | none => rw [hoi] at h5; cases h5
          | some o => rw [hoi] at h5; exact ⟨o, rfl, Option.some.inj h5⟩
        obtain ⟨o, o1, o2⟩ := ho
        exact lv_tableIn F.1 F.2.1 hd (by omega) (by omega) (by rw [show (z.1.toInt - lo).toNat = i by omega]; exact o1) o2 (t2 L S σ H locs ls g3 hP hS hl)
    · refine lv_tableOut F.1 F.2.1 hd ?_ ht (h L S σ H locs ls g2 hP hS hl)
      apply Classical.byContradiction
      intro hn
      have hi : (x.toInt - lo).toNat < tb.length := by omega
      have hz : tb[(x.toInt - lo).toNat]? = some tb[(x.toInt - lo).toNat] := List.getElem?_eq_getElem hi
      have hv := hval _ _ hz
      exact g1 (x.toInt - lo).toNat (tb[(x.toInt - lo).toNat].1, tb[(x.toInt - lo).toNat].2 L S σ) (by rw [List.getElem?_map, hz]; rfl) (Int32.toInt_inj.mp (by rw [hv]; omega))
  · exact q.elim
theorem r_lsw2 (F : ra_Fx X p R s m args c cc nL own) {dflt a1 a2 o1 o2 : Int} {len td t1 t2 : Nat} {v1 v2 : Int32} {k1 k2 : ra_K} (hd : decode cc pc = .ok (.lookupswitch dflt #[(a1, o1), (a2, o2)], len)) (hv1 : v1.toInt = a1) (hv2 : v2.toInt = a2) (hlt : a1 < a2) (e1 : (pc : Int) + o1 = (t1 : Int)) (e2 : (pc : Int) + o2 = (t2 : Int)) (e3 : (pc : Int) + dflt = (td : Int)) (h1 : ra_At X p l e R s m args below meth c nL Q k1 t1) (h2 : ra_At X p l e R s m args below meth c nL Q k2 t2) (h : ra_At X p l e R s m args below meth c nL Q kd td) : ra_At X p l e R s m args below meth c nL Q (w_sw [(v1, k1), (v2, k2)] kd) pc := by
  intro L S σ H locs ls q hP hS hl
  unfold w_sw at q
  split at q
  · next x S =>
    have hp : ((#[(a1, o1), (a2, o2)] : Array (Int × Int)).toList.zip ((#[(a1, o1), (a2, o2)] : Array (Int × Int)).toList.drop 1)).all (fun (a, next) => a.1 < next.1) = true := by simpa using hlt
    by_cases hx : x = v1
    · refine lv_lookup F.1 F.2.1 hd hp (off := o1) ?_ e1 (h1 L S σ H locs ls (q.1 hx) hP hS hl)
      show Op.lookupswitch.offset [(a1, o1), (a2, o2)] dflt x.toInt = o1
      rw [Op.lookupswitch.offset_cons, if_pos (by rw [hx, hv1])]
    · by_cases hy : x = v2
      · refine lv_lookup F.1 F.2.1 hd hp (off := o2) ?_ e2 (h2 L S σ H locs ls ((q.2 hx).1 hy) hP hS hl)
        show Op.lookupswitch.offset [(a1, o1), (a2, o2)] dflt x.toInt = o2
        rw [lv_osw hx hv1, Op.lookupswitch.offset_cons, if_pos (by rw [hy, hv2])]
      · refine lv_lookup F.1 F.2.1 hd hp (off := dflt) ?_ e3 (h L S σ H locs ls ((q.2 hx).2 hy) hP hS hl)
        show Op.lookupswitch.offset [(a1, o1), (a2, o2)] dflt x.toInt = dflt
        rw [lv_osw hx hv1, lv_osw hy hv2]
        rfl
  · exact q.elim
end RAW
