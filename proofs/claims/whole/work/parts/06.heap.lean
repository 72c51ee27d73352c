theorem ra_el_obj {X : ra_X} {a ci : Nat} (f : Nat → Int32) (h : ra_cls a = ci + 4) : ra_el X a f = .inr (ci, (List.range (ra_nf ci)).map (fun j => if ra_rf ci j then .ref (X.1 (ra_tgt a j)) else .int (f j))) := by
  unfold ra_el
  rw [h]
theorem ra_el_0 {X : ra_X} {a : Nat} (f : Nat → Int32) (h : ra_cls a = 0) : ra_el X a f = .inl (X.2.2.1 0, ra_len a, .inl f) := by
  unfold ra_el
  rw [h]
theorem ra_el_1 {X : ra_X} {a : Nat} (f : Nat → Int32) (h : ra_cls a = 1) : ra_el X a f = .inl (X.2.2.1 1, ra_len a, .inl f) := by
  unfold ra_el
  rw [h]
theorem ra_el_2 {X : ra_X} {a : Nat} (f : Nat → Int32) (h : ra_cls a = 2) : ra_el X a f = .inl (X.2.2.1 2, ra_len a, .inr (.inr (.inr (.inr (fun j => some (X.1 (ra_tgt a j))))))) := by
  unfold ra_el
  rw [h]
theorem ra_el_3 {X : ra_X} {a : Nat} (f : Nat → Int32) (h : ra_cls a = 3) : ra_el X a f = .inl (X.2.2.1 3, ra_len a, .inr (.inr (.inr (.inr (fun j => some (X.1 (ra_tgt a j))))))) := by
  unfold ra_el
  rw [h]
theorem ra_fs_set {X : ra_X} {a ci j : Nat} (f : Nat → Int32) (v : Int32) (hr : ra_rf ci j = false) : ((List.range (ra_nf ci)).map (fun j => if ra_rf ci j then Value.ref (X.1 (ra_tgt a j)) else .int (f j))).set j (.int v) = (List.range (ra_nf ci)).map (fun i => if ra_rf ci i then Value.ref (X.1 (ra_tgt a i)) else .int (upd f j v i)) := by
  apply List.ext_getElem?
  intro i
  rw [List.getElem?_set, List.getElem?_map, List.getElem?_map]
  by_cases hi : i < ra_nf ci
  · rw [List.getElem?_range hi]
    by_cases hc : j = i
    · subst hc
      rw [if_pos rfl, if_pos (by simpa using hi)]
      simp [hr, upd]
    · rw [if_neg hc]
      simp [upd, Ne.symm hc]
  · have h1 : (List.range (ra_nf ci))[i]? = none := List.getElem?_eq_none (by simpa using hi)
    rw [h1]
    by_cases hc : j = i
    · subst hc
      rw [if_pos rfl, if_neg (by simpa using hi)]
      rfl
    · rw [if_neg hc]
      rfl
section RAH
variable {X : ra_X} {p : Program} {l : Launch} {e : Env} {R : Room} {s : State} {m : MethodId} {args : Array Value} {below : List Frame} {meth : Method} {c : Code} {nL : Nat} {Q : State → Prop} {cc : ByteArray} {own : String} {pc : Nat} {k kt kf : ra_K}
/-- what a class's field tables say, for its rows -/
def ra_CF (ci N : Nat) (C : String) (T : u_T) (ty : Nat → FieldType) : Prop := ra_cl[ci]? = some (C, T, N) ∧ (∀ w ∈ u_ws C T N, w ∈ ra_WS) ∧ (∀ k, k < N → parseFieldDescriptor (T k).2.2.1 = some (ty k)) ∧ (∀ a, a < N → ∀ b, b < N → a ≠ b → (T a).2.1 ≠ (T b).2.1) ∧ ra_nf ci = N ∧ ci + 4 ≠ 99
theorem r_getI (F : ra_Fx X p R s m args c cc nL own) {ci j i N : Nat} {C : String} {T : u_T} {ty : Nat → FieldType} (G : ra_CF ci N C T ty) (hj : j < N) (hr : ra_rf ci j = false) (hw : Cond.fieldLink own i (T j).1 (T j).2.1 (T j).2.2.1 ∈ ra_WS) (hd : decode cc pc = .ok (.getfield i, 3)) (h : ra_At X p l e R s m args below meth c nL Q k (pc + 3)) : ra_At X p l e R s m args below meth c nL Q (w_gi ci j k) pc := by
  intro L S σ H locs ls q hP hS hl
  unfold w_gi at q
  split at q
  · next a S =>
    obtain ⟨hc, q⟩ := q
    obtain ⟨g1, g2, g3, g4, g5, g6⟩ := G
    have hg := ra_wl_get X σ (ra_lt hc g6)
    rw [ra_el_obj _ hc] at hg
    refine va_get (ref := (T j).1) F.1 F.2.1 F.2.2.2.2.1 g2 F.2.2.2.1 F.2.2.2.2.2.1 hP a hg g1 j hj (F.2.2.2.2.1 _ hw) (fun x h => h) (v := .int (σ a j)) ?_ hd (h L (.int (σ a j) :: S) σ H locs ls q hP hS hl)
    rw [List.getElem?_map, List.getElem?_range (by rw [g5]; exact hj)]
    simp [hr]
  · exact q.elim
theorem r_getR (F : ra_Fx X p R s m args c cc nL own) {ci j i N : Nat} {C : String} {T : u_T} {ty : Nat → FieldType} (G : ra_CF ci N C T ty) (hj : j < N) (hr : ra_rf ci j = true) (hw : Cond.fieldLink own i (T j).1 (T j).2.1 (T j).2.2.1 ∈ ra_WS) (hd : decode cc pc = .ok (.getfield i, 3)) (h : ra_At X p l e R s m args below meth c nL Q k (pc + 3)) : ra_At X p l e R s m args below meth c nL Q (w_gr ci j k) pc := by
  intro L S σ H locs ls q hP hS hl
  unfold w_gr at q
  split at q
  · next a S =>
    obtain ⟨hc, q⟩ := q
    obtain ⟨g1, g2, g3, g4, g5, g6⟩ := G
    have hg := ra_wl_get X σ (ra_lt hc g6)
    rw [ra_el_obj _ hc] at hg
    refine va_get (ref := (T j).1) F.1 F.2.1 F.2.2.2.2.1 g2 F.2.2.2.1 F.2.2.2.2.2.1 hP a hg g1 j hj (F.2.2.2.2.1 _ hw) (fun x h => h) (v := .ref (X.1 (ra_tgt a j))) ?_ hd (h L (.ref (ra_tgt a j) :: S) σ H locs ls q hP hS hl)
    rw [List.getElem?_map, List.getElem?_range (by rw [g5]; exact hj)]
    simp [hr]
  · exact q.elim
theorem ra_putAny (F : ra_Fx X p R s m args c cc nL own) {ci j i N : Nat} {C : String} {T : u_T} {ty : Nat → FieldType} (G : ra_CF ci N C T ty) (hj : j < N) (hr : ra_rf ci j = false) (hf : (T j).2.2.2 = false) (hw : Cond.fieldLink own i (T j).1 (T j).2.1 (T j).2.2.1 ∈ ra_WS) (hd : decode cc pc = .ok (.putfield i, 3)) (h : ra_At X p l e R s m args below meth c nL Q k (pc + 3)) {v : Int32} {a : Nat} {L S : List Value} {σ : ra_St} {H : Heap} {locs : List Loc} {ls : Array Slot} (hc : ra_cls a = ci + 4) (hn : narrow (ty j) (.int v) = .int v) (hfit : fits (ty j) (.int v) = true) (q : k L S (ra_sw σ a j v)) (hP : va_P X.2.1 ra_cl (ra_wl X σ) H) (hS : va_S (ra_A X) s.heap H locs) (hl : lv_has ls nL (ra_lst X L)) : W p l e R s m args below meth c H locs 0 0 Q (F0 m pc ls (.int v :: .ref (X.1 a) :: S.map (ra_tv X))) := by
  obtain ⟨g1, g2, g3, g4, g5, g6⟩ := G
  have hg := ra_wl_get X σ (ra_lt hc g6)
  rw [ra_el_obj _ hc] at hg
  refine va_put (ref := (T j).1) F.1 F.2.1 F.2.2.2.2.1 g2 ty g3 g4 F.2.2.2.1 F.2.2.2.2.2.1 hP (ra_D F.2.2.2.2.2.2.1 σ) hS a hg g1 j hj (F.2.2.2.2.1 _ hw) (fun x h => h) hf (g3 j hj) hn hfit (by simpa [g5] using hj) hd (fun H1 locs1 hP1 hD1 hS1 => ?_)
  rw [ra_fs_set _ _ hr, ← ra_el_obj _ hc, ra_wl_set] at hP1
  exact h L S _ H1 locs1 ls q hP1 hS1 hl
theorem r_putI (F : ra_Fx X p R s m args c cc nL own) {ci j i N : Nat} {C : String} {T : u_T} {ty : Nat → FieldType} (G : ra_CF ci N C T ty) (hj : j < N) (hr : ra_rf ci j = false) (hf : (T j).2.2.2 = false) (hty : ty j = .int) (hw : Cond.fieldLink own i (T j).1 (T j).2.1 (T j).2.2.1 ∈ ra_WS) (hd : decode cc pc = .ok (.putfield i, 3)) (h : ra_At X p l e R s m args below meth c nL Q k (pc + 3)) : ra_At X p l e R s m args below meth c nL Q (w_pi ci j k) pc := by
  intro L S σ H locs ls q hP hS hl
  unfold w_pi at q
  split at q
  · exact ra_putAny F G hj hr hf hw hd h q.1 (by rw [hty]; rfl) (by rw [hty]; rfl) q.2 hP hS hl
  · exact q.elim
theorem r_putZ (F : ra_Fx X p R s m args c cc nL own) {ci j i N : Nat} {C : String} {T : u_T} {ty : Nat → FieldType} (G : ra_CF ci N C T ty) (hj : j < N) (hr : ra_rf ci j = false) (hf : (T j).2.2.2 = false) (hty : ty j = .boolean) (hw : Cond.fieldLink own i (T j).1 (T j).2.1 (T j).2.2.1 ∈ ra_WS) (hd : decode cc pc = .ok (.putfield i, 3)) (h : ra_At X p l e R s m args below meth c nL Q k (pc + 3)) : ra_At X p l e R s m args below meth c nL Q (w_pz ci j k) pc := by
  intro L S σ H locs ls q hP hS hl
  unfold w_pz at q
  split at q
  · exact ra_putAny F G hj hr hf hw hd h q.1 (by rw [hty]; rcases q.2.1 with rfl | rfl <;> rfl) (by rw [hty]; rcases q.2.1 with rfl | rfl <;> rfl) q.2.2 hP hS hl
  · exact q.elim
theorem r_iaload (F : ra_Fx X p R s m args c cc nL own) (hd : decode cc pc = .ok (.iaload, 1)) (h : ra_At X p l e R s m args below meth c nL Q k (pc + 1)) : ra_At X p l e R s m args below meth c nL Q (w_ald k) pc := by
  intro L S σ H locs ls q hP hS hl
  unfold w_ald at q
  split at q
  · next i a S =>
    obtain ⟨hc, hi, q⟩ := q
    have hg := ra_wl_get X σ (ra_lt hc (by decide))
    rw [ra_el_0 _ hc] at hg
    exact va_iald F.1 F.2.1 F.2.2.2.2.2.1 hP a 0 hg rfl hi hd (h L (.int (σ a i.toNatClampNeg) :: S) σ H locs ls q hP hS hl)
  · exact q.elim
theorem r_baload (F : ra_Fx X p R s m args c cc nL own) (hd : decode cc pc = .ok (.baload, 1)) (h : ra_At X p l e R s m args below meth c nL Q k (pc + 1)) : ra_At X p l e R s m args below meth c nL Q (w_zld k) pc := by
  intro L S σ H locs ls q hP hS hl
  unfold w_zld at q
  split at q
  · next i a S =>
    obtain ⟨hc, hi, q⟩ := q
    have hg := ra_wl_get X σ (ra_lt hc (by decide))
    rw [ra_el_1 _ hc] at hg
    exact va_zald F.1 F.2.1 F.2.2.2.2.2.1 hP a 1 hg rfl hi hd (h L (.int (σ a i.toNatClampNeg) :: S) σ H locs ls q hP hS hl)
  · exact q.elim
theorem r_iastore (F : ra_Fx X p R s m args c cc nL own) (hd : decode cc pc = .ok (.iastore, 1)) (h : ra_At X p l e R s m args below meth c nL Q k (pc + 1)) : ra_At X p l e R s m args below meth c nL Q (w_ast k) pc := by
  intro L S σ H locs ls q hP hS hl
  unfold w_ast at q
  split at q
  · next v i a S =>
    obtain ⟨hc, hi, q⟩ := q
    have hg := ra_wl_get X σ (ra_lt hc (by decide))
    rw [ra_el_0 _ hc] at hg
    refine va_iast F.1 F.2.1 F.2.2.2.2.2.1 hP (ra_D F.2.2.2.2.2.2.1 σ) hS a 0 hg rfl hi hd (fun H1 locs1 hP1 hD1 hS1 => ?_)
    rw [← ra_el_0 _ hc, ra_wl_set] at hP1
    exact h L S _ H1 locs1 ls q hP1 hS1 hl
  · exact q.elim
theorem r_bastore (F : ra_Fx X p R s m args c cc nL own) (hd : decode cc pc = .ok (.bastore, 1)) (h : ra_At X p l e R s m args below meth c nL Q k (pc + 1)) : ra_At X p l e R s m args below meth c nL Q (w_zst k) pc := by
  intro L S σ H locs ls q hP hS hl
  unfold w_zst at q
  split at q
  · next v i a S =>
    obtain ⟨hc, hi, hv, q⟩ := q
    have hg := ra_wl_get X σ (ra_lt hc (by decide))
    rw [ra_el_1 _ hc] at hg
    refine va_zast F.1 F.2.1 F.2.2.2.2.2.1 hP (ra_D F.2.2.2.2.2.2.1 σ) hS a 1 hg rfl hi hd (fun H1 locs1 hP1 hD1 hS1 => ?_)
    have hnar : vp_nar .boolean v = v := by rcases hv with rfl | rfl <;> rfl
    rw [hnar, ← ra_el_1 _ hc, ra_wl_set] at hP1
    exact h L S _ H1 locs1 ls q hP1 hS1 hl
  · exact q.elim
theorem r_aaloadS (F : ra_Fx X p R s m args c cc nL own) (hd : decode cc pc = .ok (.aaload, 1)) (h : ra_At X p l e R s m args below meth c nL Q k (pc + 1)) : ra_At X p l e R s m args below meth c nL Q (w_rld 3 k) pc := by
  intro L S σ H locs ls q hP hS hl
  unfold w_rld at q
  split at q
  · next i a S =>
    obtain ⟨hc, hi, q⟩ := q
    have hg := ra_wl_get X σ (ra_lt hc (by decide))
    rw [ra_el_3 _ hc] at hg
    exact va_aldq F.1 F.2.1 F.2.2.2.2.2.1 hP a 3 hg rfl hi hd (h L (.ref (ra_tgt a i.toNatClampNeg) :: S) σ H locs ls q hP hS hl)
  · exact q.elim
theorem r_aaloadI (F : ra_Fx X p R s m args c cc nL own) (hd : decode cc pc = .ok (.aaload, 1)) (h : ra_At X p l e R s m args below meth c nL Q k (pc + 1)) : ra_At X p l e R s m args below meth c nL Q (w_rld 2 k) pc := by
  intro L S σ H locs ls q hP hS hl
  unfold w_rld at q
  split at q
  · next i a S =>
    obtain ⟨hc, hi, q⟩ := q
    have hg := ra_wl_get X σ (ra_lt hc (by decide))
    rw [ra_el_2 _ hc] at hg
    have hlt : i.toNatClampNeg < ra_len a := Nat.not_le.mp fun z => hi (Or.inr z)
    exact W.aald (v := .ref (X.1 (ra_tgt a i.toNatClampNeg))) (ty := .array .int) F.1 F.2.1 (hP a _ hg) ((F.2.2.2.2.2.1.2 2 (X.2.2.1 2, .array .int) rfl).1 (ra_len a) (fun j => va_rf (some (X.1 (ra_tgt a j))))) rfl (fun z => by cases z) (by show ¬ (i < 0 ∨ (arrV _ _ _).slots.size ≤ _); rw [arrV_size]; exact hi) (by show (arrV _ _ _).slots[_]? = _; rw [arrV_read _ _ hlt]; rfl) rfl rfl hd (h L (.ref (ra_tgt a i.toNatClampNeg) :: S) σ H locs ls q hP hS hl)
  · exact q.elim
theorem ra_sh_sum {S : List Value} (X : ra_X) (h : ra_sh S = true) : ((S.map (ra_tv X)).map fun v => v.category).sum ≤ 8 := by
  have hc : ∀ v : Value, (ra_tv X v).category ≤ 2 := fun v => by cases v <;> simp [ra_tv, Value.category]
  match S, h with
  | [], _ => simp
  | [a], _ => have := hc a; simp; omega
  | [a, b], _ => have := hc a; have := hc b; simp; omega
  | [a, b, d], _ => have := hc a; have := hc b; have := hc d; simp; omega
  | [a, b, d, f], _ => have := hc a; have := hc b; have := hc d; have := hc f; simp; omega
theorem r_max (F : ra_Fx X p R s m args c cc nL own) {i : Nat} (hw : Cond.methodLink own i Lib.Math.max.name ∈ ra_WS) (hw2 : Cond.static Lib.Math.max.name ∈ ra_WS) (hw3 : Cond.initialized "java/lang/Math" ∈ ra_WS) (hw4 : Cond.code Lib.Math.max.name Lib.Math.max.code 2 (some .int) ∈ ra_WS) (hd : decode cc pc = .ok (.invokestatic i, 3)) (h : ra_At X p l e R s m args below meth c nL Q k (pc + 3)) : ra_At X p l e R s m args below meth c nL Q (w_max k) pc := by
  intro L S σ H locs ls q hP hS hl
  unfold w_max at q
  split at q
  · next y x S =>
    have hsum := ra_sh_sum X q.1
    have hlo := F.2.2.2.2.2.2.2.2.2
    exact va_mmax F.1 F.2.1 (by rw [F.2.2.1, hl.1]) F.2.2.2.1 (F.2.2.2.2.1 _ hw) (F.2.2.2.2.1 _ hw2) (F.2.2.2.2.1 _ hw3) (F.2.2.2.2.1 _ hw4) F.2.2.2.2.2.2.2.2.1 (by omega) (Nat.zero_le _) (Nat.zero_le _) hd (h L _ σ H locs ls q.2 hP hS hl)
  · exact q.elim
theorem r_min (F : ra_Fx X p R s m args c cc nL own) {i : Nat} (hw : Cond.methodLink own i Lib.Math.min.name ∈ ra_WS) (hw2 : Cond.static Lib.Math.min.name ∈ ra_WS) (hw3 : Cond.initialized "java/lang/Math" ∈ ra_WS) (hw4 : Cond.code Lib.Math.min.name Lib.Math.min.code 2 (some .int) ∈ ra_WS) (hd : decode cc pc = .ok (.invokestatic i, 3)) (h : ra_At X p l e R s m args below meth c nL Q k (pc + 3)) : ra_At X p l e R s m args below meth c nL Q (w_min k) pc := by
  intro L S σ H locs ls q hP hS hl
  unfold w_min at q
  split at q
  · next y x S =>
    have hsum := ra_sh_sum X q.1
    have hlo := F.2.2.2.2.2.2.2.2.2
    exact va_mmin F.1 F.2.1 (by rw [F.2.2.1, hl.1]) F.2.2.2.1 (F.2.2.2.2.1 _ hw) (F.2.2.2.2.1 _ hw2) (F.2.2.2.2.1 _ hw3) (F.2.2.2.2.1 _ hw4) F.2.2.2.2.2.2.2.2.1 (by omega) (Nat.zero_le _) (Nat.zero_le _) hd (h L _ σ H locs ls q.2 hP hS hl)
  · exact q.elim
theorem r_acopy (F : ra_Fx X p R s m args c cc nL own) {i : Nat} (hw : Cond.methodLink own i arraycopyName ∈ ra_WS) (hw2 : Cond.native arraycopyName ∈ ra_WS) (hw3 : Cond.static arraycopyName ∈ ra_WS) (hw4 : Cond.initialized "java/lang/System" ∈ ra_WS) (hd : decode cc pc = .ok (.invokestatic i, 3)) (h : ra_At X p l e R s m args below meth c nL Q k (pc + 3)) : ra_At X p l e R s m args below meth c nL Q (w_cpy k) pc := by
  intro L S σ H locs ls q hP hS hl
  unfold w_cpy at q
  split at q
  · next n d b j a S =>
    obtain ⟨ha, hb, hs, h1, h2, h3, h4, h5, q⟩ := q
    have hsum := ra_sh_sum X hs
    have hlo := F.2.2.2.2.2.2.2.2.2
    have hga := ra_wl_get X σ (ra_lt ha (by decide))
    rw [ra_el_0 _ ha] at hga
    have hgb := ra_wl_get X σ (ra_lt hb (by decide))
    rw [ra_el_0 _ hb] at hgb
    refine va_copyi F.1 F.2.1 (by rw [F.2.2.1, hl.1]) F.2.2.2.1 (F.2.2.2.2.1 _ hw) (F.2.2.2.2.1 _ hw2) (F.2.2.2.2.1 _ hw3) (F.2.2.2.2.1 _ hw4) F.2.2.2.2.2.1 hP (ra_D F.2.2.2.2.2.2.1 σ) hS a b 0 0 hga hgb rfl rfl rfl h1 h2 h3 h4 h5 (fun _ _ => rfl) F.2.2.2.2.2.2.2.2.1 ?_ hd (fun H1 locs1 hP1 hD1 hS1 => ?_)
    · have : nativeFrameWords "java/lang/System" "arraycopy" 5 + 11 ≤ 56 := by decide +kernel
      omega
    · rw [← ra_el_0 _ hb, ra_wl_set] at hP1
      exact h L S _ H1 locs1 ls q hP1 hS1 hl
  · exact q.elim
end RAH
