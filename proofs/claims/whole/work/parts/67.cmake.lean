/-! making objects: rows for constructors -/
theorem va_RA_u {U : State} {c1 c2 : ClassId} {ty : FieldType} (h1 : va_RA U c1 ty) (h2 : va_RA U c2 ty) : c1 = c2 := by
  cases ty with
  | object C =>
    obtain ⟨_, _, _, _, _, e1⟩ := h1
    obtain ⟨_, _, _, _, _, e2⟩ := h2
    exact Option.some.inj (e1.symm.trans e2)
  | _ => exact Option.some.inj (Eq.trans (Eq.symm h1) h2)
theorem row_e {n : Nat} {f g : Nat → Nat} (h : ∀ i, i < n → f i = g i) : (fun i => if i < n then some (f i) else none) = (fun i => if i < n then some (g i) else none) := by
  funext i
  by_cases q : i < n
  · rw [if_pos q, if_pos q, h i q]
  · rw [if_neg q, if_neg q]
theorem va_P_perm {D : va_G} {cl : List vw_C} {ws ws' : va_W} {H : Heap} (h : va_P D cl ws H) (hp : ws.Perm ws') : va_P D cl ws' H := by
  intro k q hk
  obtain ⟨j, hj⟩ := List.getElem?_of_mem (hp.mem_iff.mpr (List.mem_of_getElem? hk))
  exact h j q hj
theorem va_D_nd {A : Nat → Prop} {ws : va_W} : va_D A ws ↔ (ws.map Prod.fst).Nodup ∧ ∀ q ∈ ws, A q.1 := by
  constructor
  · intro h
    refine ⟨?_, fun q hq => ?_⟩
    · rw [List.nodup_iff_pairwise_ne, List.pairwise_iff_getElem]
      intro i j hi hj hij e
      rw [List.length_map] at hi hj
      rw [List.getElem_map, List.getElem_map] at e
      have := h.1 i j _ _ (List.getElem?_eq_getElem hi) (List.getElem?_eq_getElem hj) e
      omega
    · obtain ⟨k, hk⟩ := List.getElem?_of_mem hq
      exact h.2 k q hk
  · intro h
    refine ⟨fun i j x y hi hj e => ?_, fun k q hk => h.2 q (List.mem_of_getElem? hk)⟩
    have h1 := h.1
    rw [List.nodup_iff_pairwise_ne, List.pairwise_iff_getElem] at h1
    obtain ⟨hi1, hi2⟩ := List.getElem?_eq_some_iff.mp hi
    obtain ⟨hj1, hj2⟩ := List.getElem?_eq_some_iff.mp hj
    rcases Nat.lt_trichotomy i j with q | q | q
    · exact absurd (by rw [List.getElem_map, List.getElem_map, hi2, hj2]; exact e) (h1 i j (by rw [List.length_map]; exact hi1) (by rw [List.length_map]; exact hj1) q)
    · exact q
    · exact absurd (by rw [List.getElem_map, List.getElem_map, hi2, hj2]; exact e.symm) (h1 j i (by rw [List.length_map]; exact hj1) (by rw [List.length_map]; exact hi1) q)
theorem va_D_perm {A : Nat → Prop} {ws ws' : va_W} (h : va_D A ws) (hp : ws.Perm ws') : va_D A ws' := by
  rw [va_D_nd] at h ⊢
  exact ⟨(hp.map Prod.fst).nodup_iff.mp h.1, fun q hq => h.2 q (hp.mem_iff.mpr hq)⟩
theorem perm1 {α : Type} (t c s : α) (B : List α) : ([t] ++ B ++ [c] ++ [s]).Perm ([t, c, s] ++ B) := by
  rw [List.append_assoc, List.append_assoc]
  exact List.Perm.append_left [t] (List.perm_append_comm (l₁ := B) (l₂ := [c] ++ [s]))
theorem perm2 {α : Type} (X B S : List α) : (X ++ B ++ S).Perm (X ++ (S ++ B)) := by
  rw [List.append_assoc]
  exact List.Perm.append_left X List.perm_append_comm
theorem perm3 {α : Type} (X B S : List α) : (X ++ (S ++ B)).Perm (X ++ (B ++ S)) := List.Perm.append_left X List.perm_append_comm
theorem perm4 {α : Type} (t c s : α) (B S1 S2 S3 S4 : List α) : ([t, c, s] ++ (B ++ S1 ++ S2 ++ S3 ++ S4)).Perm ([t] ++ B ++ [c] ++ [s] ++ S1 ++ S2 ++ S3 ++ S4) := by
  have h := (perm1 t c s B).symm.append_right (S1 ++ (S2 ++ (S3 ++ S4)))
  have e1 : [t, c, s] ++ B ++ (S1 ++ (S2 ++ (S3 ++ S4))) = [t, c, s] ++ (B ++ S1 ++ S2 ++ S3 ++ S4) := by simp only [List.append_assoc]
  have e2 : [t] ++ B ++ [c] ++ [s] ++ (S1 ++ (S2 ++ (S3 ++ S4))) = [t] ++ B ++ [c] ++ [s] ++ S1 ++ S2 ++ S3 ++ S4 := by simp only [List.append_assoc]
  rw [e1, e2] at h
  exact h
theorem nd_of : ∀ {l : List Nat}, l.Nodup → va_nd l = true
  | [], _ => rfl
  | a :: l, h => by
    rw [List.nodup_cons] at h
    rw [va_nd, nd_of h.2, decide_eq_true h.1]
    rfl
abbrev rz_ty (kc : Nat → ClassId) : List (ClassId × FieldType) := [(kc 0, .int), (kc 1, .boolean), (kc 2, .array .int), (kc 3, .object "RoofAcross$Sheet")]
def rz_NW : List Cond := [.methodLinkNest "RoofAcross" 11 ⟨"RoofAcross$Village", "<init>", "()V"⟩ "RoofAcross", .methodLinkNest "RoofAcross" 18 ⟨"RoofAcross$Weather", "<init>", "()V"⟩ "RoofAcross", .methodLinkNest "RoofAcross" 72 ⟨"RoofAcross$Sheet", "<init>", "()V"⟩ "RoofAcross"]
theorem rz_Nw_warm {s U : State} (hW : s.WarmedH U.vm) (h : ∀ w ∈ rz_NW, va_Nw w s) : ∀ w ∈ rz_NW, va_Nw w U := by
  intro w hw
  have h1 := h w hw
  simp only [rz_NW, List.mem_cons, List.not_mem_nil, or_false] at hw
  rcases hw with rfl | rfl | rfl <;> exact va_Nw.warmM hW h1
theorem rz_Nw_same {s U : State} (hv : s.vm = U.vm) (h : ∀ w ∈ rz_NW, va_Nw w s) : ∀ w ∈ rz_NW, va_Nw w U := by
  intro w hw
  have h1 := h w hw
  simp only [rz_NW, List.mem_cons, List.not_mem_nil, or_false] at hw
  rcases hw with rfl | rfl | rfl <;> exact va_Nw.same rfl hv h1
/-- what holds where objects are made -/
def rz_Fx (D : va_G) (kc : Nat → ClassId) (A : Nat → Prop) (p : Program) (s : State) (m : MethodId) (args : Array Value) (c : Code) (cc : ByteArray) (nL : Nat) (own : String) : Prop :=
  p.tables.exec = Jvm.exec ∧ c.code = cc ∧ c.maxLocals = nL ∧ s.vm.findClass own = some m.cls ∧ (∀ w ∈ ra_WS, w.before args s = true) ∧ va_K D ra_cl (rz_ty kc) s ∧ (Cond.arrayOver (.array .int)).before #[] s = true ∧ va_AO "RoofAcross$Sheet" s ∧ (∀ w ∈ rz_NW, va_Nw w s) ∧ ∀ q, s.heap.size ≤ q → A q
/-- a constructor: of one cell it makes these -/
def rz_M (l : Launch) (D : va_G) (kc : Nat → ClassId) (y : ra_MI) (h0 ci : Nat) (fs As : List Value) {S : Type} (w : S → va_W) : Prop := ∀ sz : Nat, Met l y.1 (.code y.1 y.2.1 y.2.2.1 y.2.2.2.1 :: ra_WS) y.2.2.2.2.1 (va_Pc (.ref h0 :: As) (fun U => U.heap.size = sz ∧ va_P D ra_cl [(h0, .inr (ci, fs))] U.heap ∧ va_K D ra_cl (rz_ty kc) U ∧ (Cond.arrayOver (.array .int)).before #[] U = true ∧ va_AO "RoofAcross$Sheet" U ∧ ∀ w ∈ rz_NW, va_Nw w U)) (va_Qv (fun _ : S => True) (fun q t => va_P D ra_cl (w q) t.heap ∧ va_D (va_A [(h0, .inr (ci, fs))] sz) (w q)) (va_A [(h0, .inr (ci, fs))] sz)) y.2.2.2.2.1.cells y.2.2.2.2.1.slots (va_A [(h0, .inr (ci, fs))] sz)
theorem rz_enter {l : Launch} {D : va_G} {kc : Nat → ClassId} {y : ra_MI} {h0 ci : Nat} {fs As : List Value} {S : Type} {w : S → va_W} (own : String) (hown : y.1.cls = own) (hname : y.1.name = "<init>") (hret : y.2.2.2.1 = none) (hpl : plainName y.1.cls = true) (hn : (lg_sl (.ref h0 :: As)).length ≤ y.2.2.1)
    (hb : ∀ (p : Program) (e : Env) (s : State) (m : MethodId) (below : List Frame) (meth : Method) (c : Code) (ls : Array Slot) (A : Nat → Prop), rz_Fx D kc A p s m (Value.ref h0 :: As).toArray c y.2.1 y.2.2.1 own → meth.name = "<init>" → meth.sig.returnType = none → meth.locks = false → va_P D ra_cl [(h0, .inr (ci, fs))] s.heap → va_D A [(h0, .inr (ci, fs))] → lv_has ls y.2.2.1 (lv_args 0 (.ref h0 :: As)) → W p l e y.2.2.2.2.1 s m (Value.ref h0 :: As).toArray below meth c s.heap [] 0 0 (MQ below (va_Qv (fun _ : S => True) (fun q t => va_P D ra_cl (w q) t.heap ∧ va_D A (w q)) A) (Value.ref h0 :: As).toArray s y.2.2.2.2.1.cells y.2.2.2.2.1.slots A) (F0 m 0 ls [])) : rz_M l D kc y h0 ci fs As w := by
  intro sz
  refine Met.ofW (cc := y.2.1) (maxL := y.2.2.1) (ret := y.2.2.2.1) hpl rfl ?_
  intro p e s m args below meth c s₁ B hml hv2
  obtain ⟨rfl, hsz, hP, hK, hA1, hA2, hA3⟩ := hv2
  have hts := atoms_spec (ws := .code y.1 y.2.1 y.2.2.1 y.2.2.2.1 :: ra_WS) B.pre
  have hin : meth.name = y.1.name := (name_of_methodNamed B.named B.method).1
  subst hsz
  have F : rz_Fx D kc (va_A [(h0, .inr (ci, fs))] s.heap.size) p s m (Value.ref h0 :: As).toArray c y.2.1 y.2.2.1 own := ⟨B.exec, B.bytes, hml, by rw [← hown]; exact findClass_of_methodNamed B.named, fun w hw => hts w (List.mem_cons_of_mem _ hw), hK, hA1, hA2, hA3, fun q h => Or.inr h⟩
  have hl := lv_entry (.ref h0 :: As) (n := y.2.2.1) hn
  have hD : va_D (va_A [(h0, .inr (ci, fs))] s.heap.size) [(h0, .inr (ci, fs))] := by
    refine ⟨fun i j x z hi hj _ => ?_, fun k x hk => ?_⟩
    · have h1 : i < 1 := (List.getElem?_eq_some_iff.mp hi).1
      have h2 : j < 1 := (List.getElem?_eq_some_iff.mp hj).1
      omega
    · exact Or.inl ⟨k, x.2, hk⟩
  rw [lg_entry_eq]
  exact hb p e s m below meth c _ _ F (hin.trans hname) (B.returns.trans hret) B.notSynchronized hP hD hl
section RZ
variable {D : va_G} {kc : Nat → ClassId} {A : Nat → Prop} {p : Program} {l : Launch} {e : Env} {R : Room} {s : State} {m : MethodId} {args : Array Value} {below : List Frame} {meth : Method} {c : Code} {nL : Nat} {Q : State → Prop} {cc : ByteArray} {own : String} {pc : Nat} {H : Heap} {locs : List Loc} {ls : Array Slot} {cells slots : Nat} {ws : va_W} {rest : List Value}
theorem rz_newI (F : rz_Fx D kc A p s m args c cc nL own) {n : Int32} {N : Nat} (hn : n = nI N) (hN : N ≤ 5000) (hc : cells + 1 ≤ R.cells) (hs : slots + N ≤ R.slots) (hP : va_P D ra_cl ws H) (hD : va_D A ws) (hS : va_S A s.heap H locs) (hdg : decode cc pc = .ok (.newarray .int, 2))
    (kk : ∀ (q : Nat) (H1 : Heap), va_P D ra_cl (ws ++ [(q, .inl (kc 0, N, .inl (fun _ => 0)))]) H1 → va_D A (ws ++ [(q, .inl (kc 0, N, .inl (fun _ => 0)))]) → va_S A s.heap H1 locs → W p l e R s m args below meth c H1 locs (cells + 1) (slots + N) Q (F0 m (pc + 2) ls (.ref q :: rest))) : W p l e R s m args below meth c H locs cells slots Q (F0 m pc ls (.int n :: rest)) := by
  subst hn
  refine va_newa (atype := .int) (ty := .int) (a0 := (N, .inl (fun _ => 0))) (N' := N) F.1 F.2.1 (F.2.2.2.2.1 _ jw_arrI) rfl F.2.2.2.2.2.1 hP hD hS F.2.2.2.2.2.2.2.2.2 (fun cA => rfl) (nI_pos (by omega)) (n_cl (by omega)) (by show N * 4 ≤ _; omega) hc hs hdg (fun q cA H1 hK1 hP1 hD1 hS1 => ?_)
  have e : cA = kc 0 := va_RA_u (hK1.2 4 (cA, .int) rfl).2 (F.2.2.2.2.2.1.2 0 (kc 0, .int) rfl).2
  rw [e] at hP1 hD1
  exact kk q H1 hP1 hD1 hS1
theorem rz_newZ (F : rz_Fx D kc A p s m args c cc nL own) {n : Int32} {N : Nat} (hn : n = nI N) (hN : N ≤ 5000) (hc : cells + 1 ≤ R.cells) (hs : slots + N ≤ R.slots) (hP : va_P D ra_cl ws H) (hD : va_D A ws) (hS : va_S A s.heap H locs) (hdg : decode cc pc = .ok (.newarray .boolean, 2))
    (kk : ∀ (q : Nat) (H1 : Heap), va_P D ra_cl (ws ++ [(q, .inl (kc 1, N, .inl (fun _ => 0)))]) H1 → va_D A (ws ++ [(q, .inl (kc 1, N, .inl (fun _ => 0)))]) → va_S A s.heap H1 locs → W p l e R s m args below meth c H1 locs (cells + 1) (slots + N) Q (F0 m (pc + 2) ls (.ref q :: rest))) : W p l e R s m args below meth c H locs cells slots Q (F0 m pc ls (.int n :: rest)) := by
  subst hn
  refine va_newa (atype := .boolean) (ty := .boolean) (a0 := (N, .inl (fun _ => 0))) (N' := N) F.1 F.2.1 (F.2.2.2.2.1 _ jw_arrZ) rfl F.2.2.2.2.2.1 hP hD hS F.2.2.2.2.2.2.2.2.2 (fun cA => rfl) (nI_pos (by omega)) (n_cl (by omega)) (by show N * 1 ≤ _; omega) hc hs hdg (fun q cA H1 hK1 hP1 hD1 hS1 => ?_)
  have e : cA = kc 1 := va_RA_u (hK1.2 4 (cA, .boolean) rfl).2 (F.2.2.2.2.2.1.2 1 (kc 1, .boolean) rfl).2
  rw [e] at hP1 hD1
  exact kk q H1 hP1 hD1 hS1
theorem rz_newQ (F : rz_Fx D kc A p s m args c cc nL own) {n : Int32} {N i : Nat} (hn : n = nI N) (hN : N ≤ 5000) (hw : Cond.classLink own i "RoofAcross$Sheet" ∈ ra_WS) (hc : cells + 1 ≤ R.cells) (hs : slots + N ≤ R.slots) (hP : va_P D ra_cl ws H) (hD : va_D A ws) (hS : va_S A s.heap H locs) (hdg : decode cc pc = .ok (.anewarray i, 3))
    (kk : ∀ (q : Nat) (H1 : Heap), va_P D ra_cl (ws ++ [(q, .inl (kc 3, N, .inr (.inr (.inr (.inr (fun _ => none))))))]) H1 → va_D A (ws ++ [(q, .inl (kc 3, N, .inr (.inr (.inr (.inr (fun _ => none))))))]) → va_S A s.heap H1 locs → W p l e R s m args below meth c H1 locs (cells + 1) (slots + N) Q (F0 m (pc + 3) ls (.ref q :: rest))) : W p l e R s m args below meth c H locs cells slots Q (F0 m pc ls (.int n :: rest)) := by
  subst hn
  refine va_newq (C := "RoofAcross$Sheet") (N' := N) F.1 F.2.1 F.2.2.2.1 (F.2.2.2.2.1 _ hw) F.2.2.2.2.2.2.2.1 F.2.2.2.2.2.1 hP hD hS F.2.2.2.2.2.2.2.2.2 (nI_pos (by omega)) (n_cl (by omega)) (by omega) hc hs hdg (fun q cA H1 hK1 hP1 hD1 hS1 => ?_)
  have e : cA = kc 3 := va_RA_u (hK1.2 4 (cA, .object "RoofAcross$Sheet") rfl).2 (F.2.2.2.2.2.1.2 3 (kc 3, .object "RoofAcross$Sheet") rfl).2
  rw [e] at hP1 hD1
  exact kk q H1 hP1 hD1 hS1
theorem rz_new (F : rz_Fx D kc A p s m args c cc nL own) {ci N i : Nat} {C : String} {T : u_T} {ty : Nat → FieldType} (G : ra_CF ci N C T ty) {fs : List Value} (hfs : ∀ j, j < N → defaultValue (ty j) = vp_V fs j) (hw : Cond.classLink own i C ∈ ra_WS) (hw2 : Cond.instantiable C N ∈ ra_WS) (hw3 : Cond.initialized C ∈ ra_WS) (hc : cells + 1 ≤ R.cells) (hs : slots + N ≤ R.slots) (hP : va_P D ra_cl ws H) (hD : va_D A ws) (hS : va_S A s.heap H locs) (hdg : decode cc pc = .ok (.new i, 3))
    (kk : ∀ (q : Nat) (H1 : Heap), va_P D ra_cl (ws ++ [(q, .inr (ci, fs))]) H1 → va_D A (ws ++ [(q, .inr (ci, fs))]) → va_S A s.heap H1 locs → W p l e R s m args below meth c H1 locs (cells + 1) (slots + N) Q (F0 m (pc + 3) ls (.ref q :: rest))) : W p l e R s m args below meth c H locs cells slots Q (F0 m pc ls rest) :=
  va_new F.1 F.2.1 F.2.2.2.2.1 G.2.1 ty G.2.2.1 F.2.2.2.1 (F.2.2.2.2.1 _ hw) (F.2.2.2.2.1 _ hw2) (F.2.2.2.2.1 _ hw3) F.2.2.2.2.2.1 hP hD hS F.2.2.2.2.2.2.2.2.2 G.1 hfs hc hs hdg kk
theorem rz_put (F : rz_Fx D kc A p s m args c cc nL own) {ci N i a : Nat} {C : String} {T : u_T} {ty : Nat → FieldType} (G : ra_CF ci N C T ty) (q0 : Nat) {fs : List Value} (he : ws[q0]? = some (a, .inr (ci, fs))) (k : Nat) (hk : k < N) (hw : Cond.fieldLink own i (T k).1 (T k).2.1 (T k).2.2.1 ∈ ra_WS) (hfin : (T k).2.2.2 = false) {v : Value} (hn : narrow (ty k) v = v) (hfit : fits (ty k) v = true) (hl : k < fs.length) (hP : va_P D ra_cl ws H) (hD : va_D A ws) (hS : va_S A s.heap H locs) (hdg : decode cc pc = .ok (.putfield i, 3))
    (kk : ∀ (H1 : Heap) (locs1 : List Loc), va_P D ra_cl (ws.set q0 (a, .inr (ci, fs.set k v))) H1 → va_D A (ws.set q0 (a, .inr (ci, fs.set k v))) → va_S A s.heap H1 locs1 → W p l e R s m args below meth c H1 locs1 cells slots Q (F0 m (pc + 3) ls rest)) : W p l e R s m args below meth c H locs cells slots Q (F0 m pc ls (v :: .ref a :: rest)) :=
  va_put (ref := (T k).1) F.1 F.2.1 F.2.2.2.2.1 G.2.1 ty G.2.2.1 G.2.2.2.1 F.2.2.2.1 F.2.2.2.2.2.1 hP hD hS q0 he G.1 k hk (F.2.2.2.2.1 _ hw) (fun _ h => h) hfin (G.2.2.1 k hk) hn hfit hl hdg kk
theorem rz_putF (F : rz_Fx D kc A p s m args c cc nL own) (hin : meth.name = "<init>") {ci N i a : Nat} {C : String} {T : u_T} {ty : Nat → FieldType} (G : ra_CF ci N C T ty) (q0 : Nat) {fs : List Value} (he : ws[q0]? = some (a, .inr (ci, fs))) (k : Nat) (hk : k < N) (hw : Cond.fieldLink own i (T k).1 (T k).2.1 (T k).2.2.1 ∈ ra_WS) (hfin : (T k).2.2.2 = true) (hdecl : (T k).1 = own) {v : Value} (hn : narrow (ty k) v = v) (hfit : fits (ty k) v = true) (hl : k < fs.length) (hP : va_P D ra_cl ws H) (hD : va_D A ws) (hS : va_S A s.heap H locs) (hdg : decode cc pc = .ok (.putfield i, 3))
    (kk : ∀ (H1 : Heap) (locs1 : List Loc), va_P D ra_cl (ws.set q0 (a, .inr (ci, fs.set k v))) H1 → va_D A (ws.set q0 (a, .inr (ci, fs.set k v))) → va_S A s.heap H1 locs1 → W p l e R s m args below meth c H1 locs1 cells slots Q (F0 m (pc + 3) ls rest)) : W p l e R s m args below meth c H locs cells slots Q (F0 m pc ls (v :: .ref a :: rest)) :=
  va_putF (ref := (T k).1) F.1 F.2.1 F.2.2.2.2.1 G.2.1 ty G.2.2.1 G.2.2.2.1 F.2.2.2.1 F.2.2.2.2.2.1 hP hD hS q0 he G.1 k hk (F.2.2.2.2.1 _ hw) (fun _ h => h) hfin hin hdecl (G.2.2.1 k hk) hn hfit hl hdg kk
theorem rz_get (F : rz_Fx D kc A p s m args c cc nL own) {ci N i a : Nat} {C : String} {T : u_T} {ty : Nat → FieldType} (G : ra_CF ci N C T ty) (q0 : Nat) {fs : List Value} (he : ws[q0]? = some (a, .inr (ci, fs))) (k : Nat) (hk : k < N) (hw : Cond.fieldLink own i (T k).1 (T k).2.1 (T k).2.2.1 ∈ ra_WS) {v : Value} (hv : fs[k]? = some v) (hP : va_P D ra_cl ws H) (hdg : decode cc pc = .ok (.getfield i, 3))
    (kk : W p l e R s m args below meth c H locs cells slots Q (F0 m (pc + 3) ls (v :: rest))) : W p l e R s m args below meth c H locs cells slots Q (F0 m pc ls (.ref a :: rest)) :=
  va_get (ref := (T k).1) F.1 F.2.1 F.2.2.2.2.1 G.2.1 F.2.2.2.1 F.2.2.2.2.2.1 hP q0 he G.1 k hk (F.2.2.2.2.1 _ hw) (fun _ h => h) hv hdg kk
theorem rz_obj (F : rz_Fx D kc A p s m args c cc nL own) {i a : Nat} {lv : List (Nat × Value)} (hw : Cond.methodLink own i Lib.objectInit ∈ ra_WS) (hl : lv_has ls nL lv) (hf : 1 ≤ R.frames) (hlo : 2 * 0 + (rest.map fun v => v.category).sum + 12 ≤ R.locals) (hdg : decode cc pc = .ok (.invokespecial i, 3))
    (kk : W p l e R s m args below meth c H locs cells slots Q (F0 m (pc + 3) ls rest)) : W p l e R s m args below meth c H locs cells slots Q (F0 m pc ls (.ref a :: rest)) :=
  W.objInit (g := F0 m pc ls (.ref a :: rest)) F.1 F.2.1 F.2.2.2.1 (F.2.2.2.2.1 _ hw) (F.2.2.2.2.1 _ jw_obj1) (F.2.2.2.2.1 _ jw_obj2) rfl (by rw [F.2.2.1]; exact hl.1) rfl hdg hf hlo kk
theorem rz_ret {S : Type} {w : S → va_W} {mc ms : Nat} (F : rz_Fx D kc A p s m args c cc nL own) (hr : meth.sig.returnType = none) (hlk : meth.locks = false) (q : S) (hP : va_P D ra_cl (w q) H) (hD : va_D A (w q)) (hS : va_S A s.heap H locs) (hc : cells ≤ mc) (hs : slots ≤ ms) (hdg : decode cc pc = .ok (.return_, 1)) : W p l e R s m args below meth c H locs cells slots (MQ below (va_Qv (fun _ : S => True) (fun q t => va_P D ra_cl (w q) t.heap ∧ va_D A (w q)) A) args s mc ms A) (F0 m pc ls []) :=
  W.widen hc hs (W.vret F.1 F.2.1 hr (fun t ht _ => ⟨⟨q, rfl, trivial, by rw [ht]; exact hP, hD⟩, hS.F ht⟩) hS.2.2 hdg hlk)
theorem rz_callI (F : rz_Fx D kc A p s m args c cc nL own) {y : ra_MI} {h0 ci i : Nat} {fs As st0 : List Value} {wr : va_W} {S : Type} {w : S → va_W} {lv : List (Nat × Value)} (hM : rz_M l D kc y h0 ci fs As w) (hret : y.2.2.2.1 = none) (hco : Cond.code y.1 y.2.1 y.2.2.1 y.2.2.2.1 ∈ ra_WS) (hini : Cond.initialized y.1.cls ∈ ra_WS) (hw : Cond.methodLink own i y.1 ∈ ra_WS) (hw2 : Cond.instanceMethod y.1 ∈ ra_WS) (hnm : y.1.name = "<init>")
    (hd : y.1.cls ≠ "java/lang/invoke/MethodHandle" ∧ y.1.cls ≠ "java/lang/invoke/VarHandle" ∧ (parseMethodDescriptor y.1.desc).map (fun d => d.parameters.length) = some As.length) (hR : y.2.2.2.2.1.frames + 1 ≤ R.frames ∧ 8 + (y.2.2.1 + 11) + y.2.2.2.2.1.locals ≤ R.locals) (hf : cells + y.2.2.2.2.1.cells ≤ R.cells ∧ slots + y.2.2.2.2.1.slots ≤ R.slots)
    (hP : va_P D ra_cl (wr ++ [(h0, .inr (ci, fs))]) H) (hD : va_D A (wr ++ [(h0, .inr (ci, fs))])) (hS : va_S A s.heap H locs) (hl : lv_has ls nL lv) (hst : st0 = As.reverse ++ .ref h0 :: rest) (hroom : (rest.map fun v => v.category).sum ≤ 8) (hdg : decode cc pc = .ok (.invokespecial i, 3))
    (kk : ∀ (q : S) (H1 : Heap) (locs1 : List Loc), va_P D ra_cl (wr ++ w q) H1 → va_D A (wr ++ w q) → va_S A s.heap H1 locs1 → W p l e R s m args below meth c H1 locs1 (cells + y.2.2.2.2.1.cells) (slots + y.2.2.2.2.1.slots) Q (F0 m (pc + 3) ls rest)) : W p l e R s m args below meth c H locs cells slots Q (F0 m pc ls st0) := by
  subst hst
  have cb := cwI (R := R) (own := own) (index := i) (bytes := y.2.1) (maxL := y.2.2.1) (ws' := ra_WS) As.length F.2.2.2.2.1 (ra_goodAll hco) (by rw [hret]) rfl rfl (F.2.2.2.2.1 _ hini) (F.2.2.2.2.1 _ hw) (F.2.2.2.2.1 _ hw2) hnm hd hR
  have hC : [wr.length].map (fun i => (wr ++ [(h0, .inr (ci, fs))])[i]?) = [((h0, .inr (ci, fs)) : Nat × va_E)].map some := by simp
  have hRr : (List.range wr.length).map (fun i => (wr ++ [((h0, .inr (ci, fs)) : Nat × va_E)])[i]?) = wr.map some := by
    apply List.ext_getElem?
    intro j
    rw [List.getElem?_map, List.getElem?_map]
    by_cases hj : j < wr.length
    · rw [List.getElem?_range hj, List.getElem?_eq_getElem hj]
      simp [List.getElem?_append_left hj]
    · rw [List.getElem?_eq_none (by simpa using hj), List.getElem?_eq_none (by omega)]
      rfl
  have hFc := va_free (wc := [(h0, .inr (ci, fs))]) hD hS F.2.2.2.2.2.2.2.2.2 [wr.length] hC
  have hPc : va_P D ra_cl [(h0, .inr (ci, fs))] H := by
    intro k q hk
    have h1 : k < 1 := (List.getElem?_eq_some_iff.mp hk).1
    rw [show k = 0 by omega] at hk
    cases hk
    exact hP wr.length _ (by simp)
  refine va_callv (va_runI (As := As) (rest := rest) ⟨F.1, F.2.1, F.2.2.1, F.2.2.2.1, F.2.2.2.2.1⟩ (hM H.size) cb ⟨fun a U g mk q => by obtain ⟨q0, q1, q2, q3, q4, q5, q6⟩ := q; exact ⟨q0, q1, q2, va_K.moved (u := U) (U := U.calling g mk a) (Vm.Alike.refl U.vm) q3, over_moved (E := U.calling g mk a) (Vm.Alike.refl U.vm) q4, va_AO.moved (u := U) (U := U.calling g mk a) (Vm.Alike.refl U.vm) q5, rz_Nw_same (s := U) (U := U.calling g mk a) rfl q6⟩, fun U hU hW => ⟨rfl, by rw [hU], by rw [hU]; exact hPc, va_K.moved hW.alike F.2.2.2.2.2.1, over_moved hW.alike F.2.2.2.2.2.2.1, va_AO.moved hW.alike F.2.2.2.2.2.2.2.1, rz_Nw_warm hW F.2.2.2.2.2.2.2.2.1⟩⟩ rfl rfl hl.1 rfl (lv_room hroom) hdg hf) hS (fun q _ h => hFc q h) hFc (fun u t H1 locs1 ht hvm hw hB hz1 hk1 hS1 => ?_)
  obtain ⟨hP1, hD1⟩ := hB
  rw [ht] at hP1
  obtain ⟨hP2, hD2⟩ := va_join (wr := wr) (w1 := w u) hP hD [wr.length] (List.range wr.length) hC hRr (nd_of List.nodup_range) (fun j hj => by simp at hj ⊢; omega) hk1 hFc hP1 hD1
  exact kk u H1 locs1 hP2 hD2 hS1
theorem rz_callN (F : rz_Fx D kc A p s m args c cc nL own) {y : ra_MI} {h0 ci i : Nat} {fs As st0 : List Value} {wr : va_W} {S : Type} {w : S → va_W} {lv : List (Nat × Value)} (hM : rz_M l D kc y h0 ci fs As w) (hret : y.2.2.2.1 = none) (hco : Cond.code y.1 y.2.1 y.2.2.1 y.2.2.2.1 ∈ ra_WS) (hini : Cond.initialized y.1.cls ∈ ra_WS) {host : String} (hw : Cond.methodLinkNest own i y.1 host ∈ rz_NW) (hw2 : Cond.instanceMethod y.1 ∈ ra_WS) (hnm : y.1.name = "<init>")
    (hd : y.1.cls ≠ "java/lang/invoke/MethodHandle" ∧ y.1.cls ≠ "java/lang/invoke/VarHandle" ∧ (parseMethodDescriptor y.1.desc).map (fun d => d.parameters.length) = some As.length) (hR : y.2.2.2.2.1.frames + 1 ≤ R.frames ∧ 8 + (y.2.2.1 + 11) + y.2.2.2.2.1.locals ≤ R.locals) (hf : cells + y.2.2.2.2.1.cells ≤ R.cells ∧ slots + y.2.2.2.2.1.slots ≤ R.slots)
    (hP : va_P D ra_cl (wr ++ [(h0, .inr (ci, fs))]) H) (hD : va_D A (wr ++ [(h0, .inr (ci, fs))])) (hS : va_S A s.heap H locs) (hl : lv_has ls nL lv) (hst : st0 = As.reverse ++ .ref h0 :: rest) (hroom : (rest.map fun v => v.category).sum ≤ 8) (hdg : decode cc pc = .ok (.invokespecial i, 3))
    (kk : ∀ (q : S) (H1 : Heap) (locs1 : List Loc), va_P D ra_cl (wr ++ w q) H1 → va_D A (wr ++ w q) → va_S A s.heap H1 locs1 → W p l e R s m args below meth c H1 locs1 (cells + y.2.2.2.2.1.cells) (slots + y.2.2.2.2.1.slots) Q (F0 m (pc + 3) ls rest)) : W p l e R s m args below meth c H locs cells slots Q (F0 m pc ls st0) := by
  subst hst
  have cb : va_CN R s args own i y.1 host y.2.1 y.2.2.1 none (.code y.1 y.2.1 y.2.2.1 y.2.2.2.1 :: ra_WS) y.2.2.2.2.1 y.2.2.2.2.1.cells y.2.2.2.2.1.slots As.length := va_cnB (ws' := ra_WS) As.length F.2.2.2.2.1 (ra_goodAll hco) (by rw [hret]) rfl rfl (F.2.2.2.2.2.2.2.2.1 _ hw) (F.2.2.2.2.1 _ hini) hd hR
  have hC : [wr.length].map (fun i => (wr ++ [(h0, .inr (ci, fs))])[i]?) = [((h0, .inr (ci, fs)) : Nat × va_E)].map some := by simp
  have hRr : (List.range wr.length).map (fun i => (wr ++ [((h0, .inr (ci, fs)) : Nat × va_E)])[i]?) = wr.map some := by
    apply List.ext_getElem?
    intro j
    rw [List.getElem?_map, List.getElem?_map]
    by_cases hj : j < wr.length
    · rw [List.getElem?_range hj, List.getElem?_eq_getElem hj]
      simp [List.getElem?_append_left hj]
    · rw [List.getElem?_eq_none (by simpa using hj), List.getElem?_eq_none (by omega)]
      rfl
  have hFc := va_free (wc := [(h0, .inr (ci, fs))]) hD hS F.2.2.2.2.2.2.2.2.2 [wr.length] hC
  have hPc : va_P D ra_cl [(h0, .inr (ci, fs))] H := by
    intro k q hk
    have h1 : k < 1 := (List.getElem?_eq_some_iff.mp hk).1
    rw [show k = 0 by omega] at hk
    cases hk
    exact hP wr.length _ (by simp)
  refine va_callv (va_runIN (As := As) (rest := rest) ⟨F.1, F.2.1, F.2.2.1, F.2.2.2.1, F.2.2.2.2.1⟩ (hM H.size) ⟨cb, hnm, F.2.2.2.2.1 _ hw2⟩ ⟨fun a U g mk q => by obtain ⟨q0, q1, q2, q3, q4, q5, q6⟩ := q; exact ⟨q0, q1, q2, va_K.moved (u := U) (U := U.calling g mk a) (Vm.Alike.refl U.vm) q3, over_moved (E := U.calling g mk a) (Vm.Alike.refl U.vm) q4, va_AO.moved (u := U) (U := U.calling g mk a) (Vm.Alike.refl U.vm) q5, rz_Nw_same (s := U) (U := U.calling g mk a) rfl q6⟩, fun U hU hW => ⟨rfl, by rw [hU], by rw [hU]; exact hPc, va_K.moved hW.alike F.2.2.2.2.2.1, over_moved hW.alike F.2.2.2.2.2.2.1, va_AO.moved hW.alike F.2.2.2.2.2.2.2.1, rz_Nw_warm hW F.2.2.2.2.2.2.2.2.1⟩⟩ rfl rfl hl.1 rfl (lv_room hroom) hdg hf) hS (fun q _ h => hFc q h) hFc (fun u t H1 locs1 ht hvm hw hB hz1 hk1 hS1 => ?_)
  obtain ⟨hP1, hD1⟩ := hB
  rw [ht] at hP1
  obtain ⟨hP2, hD2⟩ := va_join (wr := wr) (w1 := w u) hP hD [wr.length] (List.range wr.length) hC hRr (nd_of List.nodup_range) (fun j hj => by simp at hj ⊢; omega) hk1 hFc hP1 hD1
  exact kk u H1 locs1 hP2 hD2 hS1
/-- a row of rows of ints -/
theorem rz_mna (F : rz_Fx D kc A p s m args c cc nL own) {n k : Int32} {N K i : Nat} (hn : n = nI N) (hk : k = nI K) (hN : N ≤ 5000) (hK : K ≤ 5000) (hw : Cond.classLink own i "[[I" ∈ ra_WS) (hc : cells + (1 + N) ≤ R.cells) (hs : slots + (N + N * K) ≤ R.slots) (hP : va_P D ra_cl ws H) (hD : va_D A ws) (hS : va_S A s.heap H locs) (hdg : decode cc pc = .ok (.multianewarray i 2, 4))
    (kk : ∀ (q : Nat) (r : Nat → Nat) (H1 : Heap), va_P D ra_cl (ws ++ (q, .inl (kc 2, N, .inr (.inr (.inr (.inr (fun i => if i < N then some (r i) else none)))))) :: (List.range N).map (fun i => (r i, .inl (kc 0, K, .inl (fun _ => 0))))) H1 → va_D A (ws ++ (q, .inl (kc 2, N, .inr (.inr (.inr (.inr (fun i => if i < N then some (r i) else none)))))) :: (List.range N).map (fun i => (r i, .inl (kc 0, K, .inl (fun _ => 0))))) → va_S A s.heap H1 locs → W p l e R s m args below meth c H1 locs (cells + 1 + N) (slots + N + N * K) Q (F0 m (pc + 4) ls (.ref q :: rest))) : W p l e R s m args below meth c H locs cells slots Q (F0 m pc ls (.int k :: .int n :: rest)) := by
  subst hn hk
  have hcy : s.vm.findClass (FieldType.array .int).toString = some (kc 0) := (F.2.2.2.2.2.1.2 0 (kc 0, .int) rfl).2
  have hP0 : va_P D ra_cl (ws ++ va_pl [] (fun _ => .inl (kc 0, K, .inl (fun _ => 0)))) H := by
    show va_P D ra_cl (ws ++ []) H
    rw [List.append_nil]
    exact hP
  have hD0 : va_D A (ws ++ va_pl [] (fun _ => .inl (kc 0, K, .inl (fun _ => 0)))) := by
    show va_D A (ws ++ [])
    rw [List.append_nil]
    exact hD
  refine va_mna (ty := .int) (cy := kc 0) (X := ws) (L := []) (f := fun _ => .inl (kc 0, K, .inl (fun _ => 0))) (z := (K, .inl (fun _ => 0))) (N' := N) (K' := K) F.1 F.2.1 F.2.2.2.1 (F.2.2.2.2.1 _ hw) F.2.2.2.2.2.2.1 (F.2.2.2.2.1 _ jw_arrI) hcy F.2.2.2.2.2.1 hP0 hD0 hS F.2.2.2.2.2.2.2.2.2 (nI_pos (by omega)) (nI_pos (by omega)) (n_cl (by omega)) (n_cl (by omega)) (by omega) (by show K * 4 ≤ _; omega) (by omega) rfl rfl hc hs (fun c => arrV_new c K (.int 0)) hdg (fun q r cA H1 _ _ hK1 hP1 hD1 hS1 => ?_)
  have e : cA = kc 2 := va_RA_u (hK1.2 4 (cA, .array .int) rfl).2 (F.2.2.2.2.2.1.2 2 (kc 2, .array .int) rfl).2
  rw [e] at hP1 hD1
  rw [← vr_rows (fun a _ h => absurd h List.not_mem_nil), List.append_assoc, List.map_map] at hP1 hD1
  exact kk q r H1 hP1 hD1 hS1
end RZ
