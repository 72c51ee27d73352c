section RAC
variable {X : ra_X} {p : Program} {l : Launch} {e : Env} {R : Room} {s : State} {m : MethodId} {args : Array Value} {below : List Frame} {meth : Method} {c : Code} {nL : Nat} {Q : State → Prop} {cc : ByteArray} {own : String} {pc : Nat} {k kt kf kd : ra_K}
theorem ra_tk_spec : ∀ (n : Nat) (as S as' S' : List Value), ra_tk n as S = some (as', S') → ∃ bs : List Value, as' = bs ++ as ∧ S = bs.reverse ++ S' ∧ bs.length = n
  | 0, as, S, as', S', h => by
    rw [ra_tk] at h
    cases h
    exact ⟨[], rfl, rfl, rfl⟩
  | n + 1, as, [], as', S', h => by
    rw [ra_tk] at h
    cases h
  | n + 1, as, v :: S, as', S', h => by
    rw [ra_tk] at h
    obtain ⟨bs, h1, h2, h3⟩ := ra_tk_spec n (v :: as) S as' S' h
    exact ⟨bs ++ [v], by rw [h1]; simp, by rw [h2]; simp, by simp [h3]⟩
theorem ra_Wo_at {σ : ra_St} {H : Heap} {locs : List Loc} (F : ra_Fx X p R s m args c cc nL own) (hP : va_P X.2.1 ra_cl (ra_wl X σ) H) (hS : va_S (ra_A X) s.heap H locs) (U : State) (hU : U.heap = H) (hW : s.WarmedH U.vm) : ra_Wo X σ U :=
  ⟨by rw [hU]; exact hP, va_K.moved hW.alike F.2.2.2.2.2.1, F.2.2.2.2.2.2.1, by rw [hU]; exact F.2.2.2.2.2.2.2.1.moved hW (fun a h1 h2 => hS.2.1 a h1 h2)⟩
theorem ra_blind {σ : ra_St} {as : List Value} : FrameBlind (va_Pc (as.map (ra_tv X)) (ra_Wo X σ)) := by
  intro a U g mk h
  obtain ⟨h1, h2, h3, h4, h5⟩ := h
  exact ⟨h1, h2, va_K.moved (u := U) (U := U.calling g mk a) (Vm.Alike.refl U.vm) h3, h4, ra_Ex.same (s := U) (U := U.calling g mk a) h5 rfl⟩
/-- behind a call -/
theorem ra_ran {ls : Array Slot} {L S : List Value} {H : Heap} {locs : List Loc} {st0 : List Value} {a : Array Value} {Z : ra_R}
    (hr : va_Run p l e R s m args below meth c H locs 0 0 0 0 (F0 m pc ls st0) (S.map (ra_tv X)) (ra_Qc X Z a) (ra_A X)) (hS : va_S (ra_A X) s.heap H locs) (hZ : ∀ r σ', Z r σ' → k L (r.toList ++ S) σ') (hl : lv_has ls nL (ra_lst X L)) (h : ra_At X p l e R s m args below meth c nL Q k (pc + 3)) : W p l e R s m args below meth c H locs 0 0 Q (F0 m pc ls st0) := by
  intro T hT Y
  obtain ⟨v, st₀, t, T', L', h0, Y', hL, e1, e2, ⟨⟨r, σ', hv, hz, hp⟩, hsz, hk⟩, st⟩ := hr T hT Y
  cases hv
  rw [h0] at hsz hk
  have hS1 : va_S (ra_A X) s.heap T'.heap (locs ++ L') := ⟨Nat.le_trans hS.1 (by rw [e1]; exact hsz), fun q h1 h2 => by rw [e1, hk q (Nat.lt_of_lt_of_le h1 hS.1) h2]; exact hS.2.1 q h1 h2, fun q hq => by
    rcases List.mem_append.mp hq with z | z
    · exact hS.2.2 q z
    · exact hL q z⟩
  have hk2 := h L (r.toList ++ S) σ' T'.heap (locs ++ L') ls (hZ r σ' hz) (by rw [e1]; exact hp) hS1 hl
  obtain ⟨t2, a1, b1⟩ := hk2 T' rfl Y'
  refine ⟨t2, st t2 ?_, b1⟩
  have e3 : (r.map (ra_tv X)).toList ++ S.map (ra_tv X) = (r.toList ++ S).map (ra_tv X) := by cases r <;> simp
  show Steps p.tables e below (T'.setTop { method := m, pc := pc + 3, locals := ls, stack := (r.map (ra_tv X)).toList ++ S.map (ra_tv X), locked := none }) t2
  rw [e3]
  exact a1
/-- a callee and its room -/
def ra_CO (R : Room) (y : ra_MI) : Prop := y.2.2.2.2.1.cells = 0 ∧ y.2.2.2.2.1.slots = 0 ∧ y.2.2.2.2.1.frames + 1 ≤ R.frames ∧ 8 + (y.2.2.1 + 11) + y.2.2.2.2.1.locals ≤ R.locals ∧ Cond.code y.1 y.2.1 y.2.2.1 y.2.2.2.1 ∈ ra_WS ∧ Cond.initialized y.1.cls ∈ ra_WS ∧ y.1.cls ≠ "java/lang/invoke/MethodHandle" ∧ y.1.cls ≠ "java/lang/invoke/VarHandle"
theorem ra_goodAll {c1 : Cond} (h : c1 ∈ ra_WS) : GoodIn ra_WS (c1 :: ra_WS) := by
  intro w hw
  rcases List.mem_cons.mp hw with rfl | hw
  · exact ⟨h, good_of_word (List.mem_filter.mp h).2⟩
  · exact ⟨hw, good_of_word (List.mem_filter.mp hw).2⟩
theorem r_callS (F : ra_Fx X p R s m args c cc nL own) {y : ra_MI} {sp : ra_Sp} {n i : Nat} (hM : ra_MOK l X y sp) (G : ra_CO R y) (hn : y.2.2.2.2.2 = n ∧ (parseMethodDescriptor y.1.desc).map (fun d => d.parameters.length) = some n) (hw : Cond.methodLink own i y.1 ∈ ra_WS) (hw2 : Cond.static y.1 ∈ ra_WS) (hd : decode cc pc = .ok (.invokestatic i, 3)) (h : ra_At X p l e R s m args below meth c nL Q k (pc + 3)) : ra_At X p l e R s m args below meth c nL Q (w_cs sp n k) pc := by
  intro L S σ H locs ls q hP hS hl
  unfold w_cs at q
  split at q
  · next as S1 htk =>
    obtain ⟨q1, q2, q3⟩ := q
    obtain ⟨bs, b1, b2, b3⟩ := ra_tk_spec _ _ _ _ _ htk
    rw [List.append_nil] at b1
    subst b1
    subst b2
    obtain ⟨g1, g2, g3, g4, g5, g6, g7, g8⟩ := G
    have hm := hM as σ _ q1 (by rw [hn.1]; exact b3) q3
    have cb : CallB R s args own i y.1 y.2.1 y.2.2.1 y.2.2.2.1 (.code y.1 y.2.1 y.2.2.1 y.2.2.2.1 :: ra_WS) y.2.2.2.2.1 0 0 n := callB_of n F.2.2.2.2.1 (ra_goodAll g5) rfl g1 g2 (F.2.2.2.2.1 _ g6) (F.2.2.2.2.1 _ hw) ⟨g7, g8, hn.2⟩ ⟨g3, g4⟩
    have hr := va_runS (p := p) (e := e) (below := below) (meth := meth) (H := H) (locs := locs) (cells := 0) (slots := 0) (g := F0 m pc ls ((as.reverse ++ S1).map (ra_tv X))) (As := as.map (ra_tv X)) (rest := S1.map (ra_tv X)) (cc := cc) (nL := nL) (Ts := ra_WS) ⟨F.1, F.2.1, F.2.2.1, F.2.2.2.1, F.2.2.2.2.1⟩ hm ⟨cb, F.2.2.2.2.1 _ hw2⟩ ⟨ra_blind, fun U hU hW => ⟨rfl, ra_Wo_at F hP hS U hU hW⟩⟩ rfl (by rw [List.length_map]; exact b3) hl.1 (by simp) (lv_room (ra_sh_sum X q2)) hd ⟨Nat.zero_le _, Nat.zero_le _⟩
    exact ra_ran hr hS (fun r σ' z => z) hl h
  · exact q.elim
theorem r_callSN (F : ra_Fx X p R s m args c cc nL own) {y : ra_MI} {sp : ra_Sp} {n i : Nat} {host : String} (hM : ra_MOK l X y sp) (G : ra_CO R y) (hn : y.2.2.2.2.2 = n ∧ (parseMethodDescriptor y.1.desc).map (fun d => d.parameters.length) = some n) (hw : Cond.methodLinkNest own i y.1 host ∈ ra_NW) (hw2 : Cond.static y.1 ∈ ra_WS) (hd : decode cc pc = .ok (.invokestatic i, 3)) (h : ra_At X p l e R s m args below meth c nL Q k (pc + 3)) : ra_At X p l e R s m args below meth c nL Q (w_cs sp n k) pc := by
  intro L S σ H locs ls q hP hS hl
  unfold w_cs at q
  split at q
  · next as S1 htk =>
    obtain ⟨q1, q2, q3⟩ := q
    obtain ⟨bs, b1, b2, b3⟩ := ra_tk_spec _ _ _ _ _ htk
    rw [List.append_nil] at b1
    subst b1
    subst b2
    obtain ⟨g1, g2, g3, g4, g5, g6, g7, g8⟩ := G
    have hm := hM as σ _ q1 (by rw [hn.1]; exact b3) q3
    have cb : va_CN R s args own i y.1 host y.2.1 y.2.2.1 y.2.2.2.1 (.code y.1 y.2.1 y.2.2.1 y.2.2.2.1 :: ra_WS) y.2.2.2.2.1 0 0 n := va_cnB n F.2.2.2.2.1 (ra_goodAll g5) rfl g1 g2 (F.2.2.2.2.2.2.2.1.1 _ hw) (F.2.2.2.2.1 _ g6) ⟨g7, g8, hn.2⟩ ⟨g3, g4⟩
    have hr := va_runSN (p := p) (e := e) (below := below) (meth := meth) (H := H) (locs := locs) (cells := 0) (slots := 0) (g := F0 m pc ls ((as.reverse ++ S1).map (ra_tv X))) (As := as.map (ra_tv X)) (rest := S1.map (ra_tv X)) (cc := cc) (nL := nL) (Ts := ra_WS) ⟨F.1, F.2.1, F.2.2.1, F.2.2.2.1, F.2.2.2.2.1⟩ hm ⟨cb, F.2.2.2.2.1 _ hw2, trivial⟩ ⟨ra_blind, fun U hU hW => ⟨rfl, ra_Wo_at F hP hS U hU hW⟩⟩ rfl (by rw [List.length_map]; exact b3) hl.1 (by simp) (lv_room (ra_sh_sum X q2)) hd ⟨Nat.zero_le _, Nat.zero_le _⟩
    exact ra_ran hr hS (fun r σ' z => z) hl h
  · exact q.elim
theorem ra_hd_spec {as : List Value} {n : Nat} (h : ra_hd as = n) (hn : n ≠ 99) : ∃ a as', as = .ref a :: as' := by
  unfold ra_hd at h
  split at h
  · next a as' => exact ⟨a, as', rfl⟩
  · exact absurd h.symm hn
theorem r_callV (F : ra_Fx X p R s m args c cc nL own) {y : ra_MI} {sp : ra_Sp} {n i ci : Nat} {T : u_T} {N : Nat} (hM : ra_MOK l X y sp) (G : ra_CO R y) (hn : y.2.2.2.2.2 = n ∧ (parseMethodDescriptor y.1.desc).map (fun d => d.parameters.length + 1) = some n) (hci : ra_cl[ci]? = some (y.1.cls, T, N) ∧ ci + 4 ≠ 99) (hw : Cond.methodLink own i y.1 ∈ ra_WS) (hw2 : Cond.instanceMethod y.1 ∈ ra_WS) (hw3 : Cond.selects y.1.cls y.1 y.1 ∈ ra_WS) (hd : decode cc pc = .ok (.invokevirtual i, 3)) (h : ra_At X p l e R s m args below meth c nL Q k (pc + 3)) : ra_At X p l e R s m args below meth c nL Q (w_cv sp n ci k) pc := by
  intro L S σ H locs ls q hP hS hl
  unfold w_cv at q
  split at q
  · next as S1 htk =>
    obtain ⟨q0, q1, q2, q3⟩ := q
    obtain ⟨bs, b1, b2, b3⟩ := ra_tk_spec _ _ _ _ _ htk
    rw [List.append_nil] at b1
    subst b1
    subst b2
    obtain ⟨g1, g2, g3, g4, g5, g6, g7, g8⟩ := G
    have hm := hM as σ _ q1 (by rw [hn.1]; exact b3) q3
    obtain ⟨a, as1, rfl⟩ := ra_hd_spec q0 hci.2
    · have hc : ra_cls a = ci + 4 := q0
      have hg := ra_wl_get X σ (ra_lt hc hci.2)
      rw [ra_el_obj _ hc] at hg
      have hn2 : (parseMethodDescriptor y.1.desc).map (fun d => d.parameters.length) = some as1.length := by
        have h2 := hn.2
        cases hpd : parseMethodDescriptor y.1.desc with
        | none => rw [hpd] at h2; cases h2
        | some d =>
          rw [hpd] at h2
          have h3 : d.parameters.length + 1 = n := Option.some.inj h2
          have h4 : as1.length + 1 = n := b3
          have h5 : d.parameters.length = as1.length := by omega
          show some d.parameters.length = some as1.length
          rw [h5]
      have cb : CallB R s args own i y.1 y.2.1 y.2.2.1 y.2.2.2.1 (.code y.1 y.2.1 y.2.2.1 y.2.2.2.1 :: ra_WS) y.2.2.2.2.1 0 0 as1.length := callB_of as1.length F.2.2.2.2.1 (ra_goodAll g5) rfl g1 g2 (F.2.2.2.2.1 _ g6) (F.2.2.2.2.1 _ hw) ⟨g7, g8, hn2⟩ ⟨g3, g4⟩
      have hr := va_runV (p := p) (e := e) (below := below) (meth := meth) (H := H) (locs := locs) (cells := 0) (slots := 0) (C := y.1.cls) (b := X.1 a) (g := F0 m pc ls (((Value.ref a :: as1).reverse ++ S1).map (ra_tv X))) (As := as1.map (ra_tv X)) (rest := S1.map (ra_tv X)) (cc := cc) (nL := nL) (Ts := ra_WS) ⟨F.1, F.2.1, F.2.2.1, F.2.2.2.1, F.2.2.2.2.1⟩ hm ⟨cb, F.2.2.2.2.1 _ hw2, F.2.2.2.2.1 _ hw3⟩ ⟨ra_blind, va_recv F.2.2.2.2.2.1 hP hci.1 hg, fun U hU hW => ⟨rfl, ra_Wo_at F hP hS U hU hW⟩⟩ rfl (by rw [List.length_map]) hl.1 (by simp [ra_tv]) (lv_room (ra_sh_sum X q2)) hd ⟨Nat.zero_le _, Nat.zero_le _⟩
      exact ra_ran hr hS (fun r σ' z => z) hl h
  · exact q.elim
/-! the ends -/
theorem ra_end {Z : ra_R} {v : Option Value} {σ : ra_St} {H : Heap} {locs : List Loc} (hz : Z v σ) (hP : va_P X.2.1 ra_cl (ra_wl X σ) H) (hS : va_S (ra_A X) s.heap H locs) (t : State) (ht : t.heap = H) : ra_Qc X Z args s (.returned (v.map (ra_tv X))) t :=
  ⟨⟨v, σ, rfl, hz, by rw [ht]; exact hP⟩, hS.F ht⟩
theorem r_ireturn (F : ra_Fx X p R s m args c cc nL own) {Z : ra_R} (hr : meth.sig.returnType = some .int) (hlk : meth.locks = false) (hd : decode cc pc = .ok (.ireturn, 1)) : ra_At X p l e R s m args below meth c nL (MQ below (ra_Qc X Z) args s 0 0 (ra_A X)) (w_ir Z) pc := by
  intro L S σ H locs ls q hP hS hl
  unfold w_ir at q
  split at q
  · next v => exact W.iret F.1 F.2.1 hr (fun t ht _ => ra_end (v := some (.int v)) q hP hS t ht) hS.2.2 hd hlk
  · exact q.elim
theorem r_zreturn (F : ra_Fx X p R s m args c cc nL own) {Z : ra_R} (hr : meth.sig.returnType = some .boolean) (hlk : meth.locks = false) (hd : decode cc pc = .ok (.ireturn, 1)) : ra_At X p l e R s m args below meth c nL (MQ below (ra_Qc X Z) args s 0 0 (ra_A X)) (w_zr Z) pc := by
  intro L S σ H locs ls q hP hS hl
  unfold w_zr at q
  split at q
  · next v => exact W.zret F.1 F.2.1 hr (by rcases q.1 with rfl | rfl <;> rfl) (fun t ht _ => ra_end (v := some (.int v)) q.2 hP hS t ht) hS.2.2 hd hlk
  · exact q.elim
theorem r_lreturn (F : ra_Fx X p R s m args c cc nL own) {Z : ra_R} (hr : meth.sig.returnType = some .long) (hlk : meth.locks = false) (hd : decode cc pc = .ok (.lreturn, 1)) : ra_At X p l e R s m args below meth c nL (MQ below (ra_Qc X Z) args s 0 0 (ra_A X)) (w_lr Z) pc := by
  intro L S σ H locs ls q hP hS hl
  unfold w_lr at q
  split at q
  · next v => exact W.lret F.1 F.2.1 hr (fun t ht _ => ra_end (v := some (.long v)) q hP hS t ht) hS.2.2 hd hlk
  · exact q.elim
theorem r_areturn (F : ra_Fx X p R s m args c cc nL own) {Z : ra_R} {rt : FieldType} (hr : meth.sig.returnType = some rt) (hrt : (∃ n, rt = .object n) ∨ ∃ t, rt = .array t) (hlk : meth.locks = false) (hd : decode cc pc = .ok (.areturn, 1)) : ra_At X p l e R s m args below meth c nL (MQ below (ra_Qc X Z) args s 0 0 (ra_A X)) (w_ar Z) pc := by
  intro L S σ H locs ls q hP hS hl
  unfold w_ar at q
  split at q
  · next v => exact W.aret F.1 F.2.1 hr hrt (Or.inr ⟨_, rfl⟩) (fun t ht _ => ra_end (v := some (.ref v)) q hP hS t ht) hS.2.2 hd hlk
  · exact q.elim
theorem r_return (F : ra_Fx X p R s m args c cc nL own) {Z : ra_R} (hr : meth.sig.returnType = none) (hlk : meth.locks = false) (hd : decode cc pc = .ok (.return_, 1)) : ra_At X p l e R s m args below meth c nL (MQ below (ra_Qc X Z) args s 0 0 (ra_A X)) (w_vr Z) pc := by
  intro L S σ H locs ls q hP hS hl
  unfold w_vr at q
  split at q
  · exact W.vret F.1 F.2.1 hr (fun t ht _ => ra_end (v := none) q hP hS t ht) hS.2.2 hd hlk
  · exact q.elim
/-! a method from its entry -/
theorem ra_enter {y : ra_MI} {sp : ra_Sp} {k : ra_R → List Value → ra_St → ra_K} (own : String) (hown : y.1.cls = own) (hpl : plainName y.1.cls = true) (hR : 1 ≤ y.2.2.2.2.1.frames ∧ 64 ≤ y.2.2.2.2.1.locals) (hn : y.2.2.2.2.2 ≤ y.2.2.1)
    (hb : ∀ (p : Program) (e : Env) (s : State) (m : MethodId) (args : Array Value) (below : List Frame) (meth : Method) (c : Code) (Z : ra_R) (as : List Value) (σ : ra_St), sp as σ Z → ra_Fx X p y.2.2.2.2.1 s m args c y.2.1 y.2.2.1 own → meth.sig.returnType = y.2.2.2.1 → meth.locks = false → ra_At X p l e y.2.2.2.2.1 s m args below meth c y.2.2.1 (MQ below (ra_Qc X Z) args s 0 0 (ra_A X)) (k Z as σ) 0)
    (hv : ∀ as σ Z, ra_c1 as = true → as.length = y.2.2.2.2.2 → sp as σ Z → k Z as σ (ra_pad y.2.2.1 as) [] σ) : ra_MOK l X y sp := by
  intro as σ Z h1 h2 h3
  refine Met.ofW (cc := y.2.1) (maxL := y.2.2.1) (ret := y.2.2.2.1) hpl rfl ?_
  intro p e s m args below meth c s₁ B hml hv2
  obtain ⟨rfl, hP, hK, hinj, hEx⟩ := hv2
  have hts := atoms_spec (ws := .code y.1 y.2.1 y.2.2.1 y.2.2.2.1 :: ra_WS) B.pre
  have F : ra_Fx X p y.2.2.2.2.1 s m (as.map (ra_tv X)).toArray c y.2.1 y.2.2.1 own := ⟨B.exec, B.bytes, hml, by rw [← hown]; exact findClass_of_methodNamed B.named, fun w hw => hts w (List.mem_cons_of_mem _ hw), hK, hinj, hEx, hR⟩
  have hl := lv_entry (as.map (ra_tv X)) (n := y.2.2.1) (by rw [ra_sl_len as h1, h2]; exact hn)
  rw [lg_entry_eq]
  refine hb p e s m _ below meth c Z as σ h3 F B.returns B.notSynchronized (ra_pad y.2.2.1 as) [] σ s.heap [] _ (hv as σ Z h1 h2 h3) hP va_S.rf (ra_less hl (fun q hq => ?_))
  obtain ⟨v, z1, z2, z3⟩ := ra_lst_mem.mp hq
  have h4 := ra_args (X := X) as 0 q.1 v h1 (ra_pad_get _ _ _ _ z1 z2)
  rw [Nat.zero_add, ← z3] at h4
  exact h4
/-! loops: a measure of three numbers -/
abbrev ra_M : Type := Nat × Nat × Nat
def ra_lx (a b : ra_M) : Prop := a.1 < b.1 ∨ a.1 = b.1 ∧ (a.2.1 < b.2.1 ∨ a.2.1 = b.2.1 ∧ a.2.2 < b.2.2)
theorem ra_lx_acc : ∀ (i j n : Nat), Acc ra_lx (i, j, n) := by
  intro i
  induction i using Nat.strongRecOn with
  | ind i ih =>
    intro j
    induction j using Nat.strongRecOn with
    | ind j jh =>
      intro n
      induction n using Nat.strongRecOn with
      | ind n nh =>
        refine Acc.intro _ (fun y hy => ?_)
        obtain ⟨a, b, d⟩ := y
        rcases hy with h | ⟨h, h2 | ⟨h2, h3⟩⟩
        · exact ih a h b d
        · have h : a = i := h
          subst h
          exact jh b h2 d
        · have h : a = i := h
          have h2 : b = j := h2
          subst h
          subst h2
          exact nh d h3
def ra_J (I : Nat → ra_M → ra_K) (μ : ra_M) (t : Nat) : ra_K := fun L S σ => ∃ μ', ra_lx μ' μ ∧ I t μ' L S σ
def ra_I (I : Nat → ra_M → ra_K) (t : Nat) : ra_K := fun L S σ => ∃ μ, I t μ L S σ
theorem ra_cuts {cuts : List Nat} {I : Nat → ra_M → ra_K} {b : Nat → (Nat → ra_K) → ra_K} (hb : ∀ t ∈ cuts, ∀ J : Nat → ra_K, (∀ t ∈ cuts, ra_At X p l e R s m args below meth c nL Q (J t) t) → ra_At X p l e R s m args below meth c nL Q (b t J) t)
    (vc : ∀ t ∈ cuts, ∀ μ L S σ, I t μ L S σ → b t (ra_J I μ) L S σ) : ∀ t ∈ cuts, ra_At X p l e R s m args below meth c nL Q (ra_I I t) t := by
  have h : ∀ μ : ra_M, ∀ t ∈ cuts, ra_At X p l e R s m args below meth c nL Q (I t μ) t := by
    intro μ
    have ha : Acc ra_lx μ := ra_lx_acc μ.1 μ.2.1 μ.2.2
    induction ha with
    | intro μ _ ih =>
      intro t ht
      refine (hb t ht (ra_J I μ) (fun t' ht' => ?_)).mono (vc t ht μ)
      intro L S σ H locs ls q
      obtain ⟨μ', h1, h2⟩ := q
      exact ih μ' h1 t' ht' L S σ H locs ls h2
  intro t ht L S σ H locs ls q
  obtain ⟨μ, q⟩ := q
  exact h μ t ht L S σ H locs ls q
end RAC
