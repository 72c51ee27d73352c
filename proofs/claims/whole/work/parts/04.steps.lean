/-! The small machine's steps, each with its row over the JVM. -/
section RAS
variable {X : ra_X} {p : Program} {l : Launch} {e : Env} {R : Room} {s : State} {m : MethodId} {args : Array Value} {below : List Frame} {meth : Method} {c : Code} {nL : Nat} {Q : State → Prop} {cc : ByteArray} {own : String} {pc : Nat} {k kt kf : ra_K}
/-- a place of a method from which k is enough -/
def ra_At (X : ra_X) (p : Program) (l : Launch) (e : Env) (R : Room) (s : State) (m : MethodId) (args : Array Value) (below : List Frame) (meth : Method) (c : Code) (nL : Nat) (Q : State → Prop) (k : ra_K) (pc : Nat) : Prop :=
  ∀ (L S : List Value) (σ : ra_St) (H : Heap) (locs : List Loc) (ls : Array Slot), k L S σ → va_P X.2.1 ra_cl (ra_wl X σ) H → va_S (ra_A X) s.heap H locs → lv_has ls nL (ra_lst X L) → W p l e R s m args below meth c H locs 0 0 Q (F0 m pc ls (S.map (ra_tv X)))
def ra_Fx (X : ra_X) (p : Program) (R : Room) (s : State) (m : MethodId) (args : Array Value) (c : Code) (cc : ByteArray) (nL : Nat) (own : String) : Prop :=
  p.tables.exec = Jvm.exec ∧ c.code = cc ∧ c.maxLocals = nL ∧ s.vm.findClass own = some m.cls ∧ (∀ w ∈ ra_WS, w.before args s = true) ∧ va_K X.2.1 ra_cl (ra_tys X) s ∧ ra_inj X ∧ ra_Ex X s s.heap ∧ 1 ≤ R.frames ∧ 64 ≤ R.locals
def w_c (v : Int32) (k : ra_K) : ra_K := fun L S σ => k L (.int v :: S) σ
def w_cl (v : Int64) (k : ra_K) : ra_K := fun L S σ => k L (.long v :: S) σ
def w_il (i : Nat) (k : ra_K) : ra_K := fun L S σ => match L[i]? with
  | some (.int x) => k L (.int x :: S) σ
  | _ => False
def w_ll (i : Nat) (k : ra_K) : ra_K := fun L S σ => match L[i]? with
  | some (.long x) => k L (.long x :: S) σ
  | _ => False
def w_al (i : Nat) (k : ra_K) : ra_K := fun L S σ => match L[i]? with
  | some (.ref x) => k L (.ref x :: S) σ
  | _ => False
def w_is (i : Nat) (k : ra_K) : ra_K := fun L S σ => match S with
  | .int x :: S => ra_nl L i = true ∧ k (L.set i (.int x)) S σ
  | _ => False
def w_as (i : Nat) (k : ra_K) : ra_K := fun L S σ => match S with
  | .ref x :: S => ra_nl L i = true ∧ k (L.set i (.ref x)) S σ
  | _ => False
def w_ls (i : Nat) (k : ra_K) : ra_K := fun L S σ => match S with
  | .long x :: S => ra_nl L i = true ∧ k ((L.set i (.long x)).set (i + 1) .null) S σ
  | _ => False
def w_inc (i : Nat) (v : Int32) (k : ra_K) : ra_K := fun L S σ => match L[i]? with
  | some (.int x) => ra_nl L i = true ∧ k (L.set i (.int (x + v))) S σ
  | _ => False
def w_i2 (f : Int32 → Int32 → Int32) (k : ra_K) : ra_K := fun L S σ => match S with
  | .int y :: .int x :: S => k L (.int (f x y) :: S) σ
  | _ => False
def w_dv (f : Int32 → Int32 → Int32) (k : ra_K) : ra_K := fun L S σ => match S with
  | .int y :: .int x :: S => ¬ y = 0 ∧ k L (.int (f x y) :: S) σ
  | _ => False
def w_i1 (f : Int32 → Int32) (k : ra_K) : ra_K := fun L S σ => match S with
  | .int x :: S => k L (.int (f x) :: S) σ
  | _ => False
def w_i2l (k : ra_K) : ra_K := fun L S σ => match S with
  | .int x :: S => k L (.long x.toInt64 :: S) σ
  | _ => False
def w_l2 (f : Int64 → Int64 → Int64) (k : ra_K) : ra_K := fun L S σ => match S with
  | .long y :: .long x :: S => k L (.long (f x y) :: S) σ
  | _ => False
def w_lcmp (k : ra_K) : ra_K := fun L S σ => match S with
  | .long y :: .long x :: S => k L (.int (lg_cmp x y) :: S) σ
  | _ => False
def w_dup (k : ra_K) : ra_K := fun L S σ => match S with
  | .int x :: S => k L (.int x :: .int x :: S) σ
  | .ref x :: S => k L (.ref x :: .ref x :: S) σ
  | _ => False
def w_dup2 (k : ra_K) : ra_K := fun L S σ => match S with
  | .int y :: .ref x :: S => k L (.int y :: .ref x :: .int y :: .ref x :: S) σ
  | _ => False
def w_b1 (f : Int32 → Prop) (kt kf : ra_K) : ra_K := fun L S σ => match S with
  | .int x :: S => (f x → kt L S σ) ∧ (¬ f x → kf L S σ)
  | _ => False
def w_b2 (f : Int32 → Int32 → Prop) (kt kf : ra_K) : ra_K := fun L S σ => match S with
  | .int y :: .int x :: S => (f x y → kt L S σ) ∧ (¬ f x y → kf L S σ)
  | _ => False
def w_gi (ci j : Nat) (k : ra_K) : ra_K := fun L S σ => match S with
  | .ref a :: S => ra_cls a = ci + 4 ∧ k L (.int (σ a j) :: S) σ
  | _ => False
def w_gr (ci j : Nat) (k : ra_K) : ra_K := fun L S σ => match S with
  | .ref a :: S => ra_cls a = ci + 4 ∧ k L (.ref (ra_tgt a j) :: S) σ
  | _ => False
def w_pi (ci j : Nat) (k : ra_K) : ra_K := fun L S σ => match S with
  | .int v :: .ref a :: S => ra_cls a = ci + 4 ∧ k L S (ra_sw σ a j v)
  | _ => False
def w_pz (ci j : Nat) (k : ra_K) : ra_K := fun L S σ => match S with
  | .int v :: .ref a :: S => ra_cls a = ci + 4 ∧ (v = 0 ∨ v = 1) ∧ k L S (ra_sw σ a j v)
  | _ => False
def w_ald (k : ra_K) : ra_K := fun L S σ => match S with
  | .int i :: .ref a :: S => ra_cls a = 0 ∧ vp_in i (ra_len a) ∧ k L (.int (σ a i.toNatClampNeg) :: S) σ
  | _ => False
def w_ast (k : ra_K) : ra_K := fun L S σ => match S with
  | .int v :: .int i :: .ref a :: S => ra_cls a = 0 ∧ vp_in i (ra_len a) ∧ k L S (ra_sw σ a i.toNatClampNeg v)
  | _ => False
def w_zld (k : ra_K) : ra_K := fun L S σ => match S with
  | .int i :: .ref a :: S => ra_cls a = 1 ∧ vp_in i (ra_len a) ∧ k L (.int (σ a i.toNatClampNeg) :: S) σ
  | _ => False
def w_zst (k : ra_K) : ra_K := fun L S σ => match S with
  | .int v :: .int i :: .ref a :: S => ra_cls a = 1 ∧ vp_in i (ra_len a) ∧ (v = 0 ∨ v = 1) ∧ k L S (ra_sw σ a i.toNatClampNeg v)
  | _ => False
def w_rld (n : Nat) (k : ra_K) : ra_K := fun L S σ => match S with
  | .int i :: .ref a :: S => ra_cls a = n ∧ vp_in i (ra_len a) ∧ k L (.ref (ra_tgt a i.toNatClampNeg) :: S) σ
  | _ => False
def ra_sh : List Value → Bool
  | [] | [_] | [_, _] | [_, _, _] | [_, _, _, _] => true
  | _ => false
def ra_tk : Nat → List Value → List Value → Option (List Value × List Value)
  | 0, as, S => some (as, S)
  | n + 1, as, v :: S => ra_tk n (v :: as) S
  | _ + 1, _, [] => none
def w_cs (sp : ra_Sp) (n : Nat) (k : ra_K) : ra_K := fun L S σ => match ra_tk n [] S with
  | some (as, S) => ra_c1 as = true ∧ ra_sh S = true ∧ sp as σ (fun r σ' => k L (r.toList ++ S) σ')
  | none => False
def ra_hd : List Value → Nat
  | .ref a :: _ => ra_cls a
  | _ => 99
def w_cv (sp : ra_Sp) (n ci : Nat) (k : ra_K) : ra_K := fun L S σ => match ra_tk n [] S with
  | some (as, S) => ra_hd as = ci + 4 ∧ ra_c1 as = true ∧ ra_sh S = true ∧ sp as σ (fun r σ' => k L (r.toList ++ S) σ')
  | none => False
def w_max (k : ra_K) : ra_K := fun L S σ => match S with
  | .int y :: .int x :: S => ra_sh S = true ∧ k L (.int (if x < y then y else x) :: S) σ
  | _ => False
def w_min (k : ra_K) : ra_K := fun L S σ => match S with
  | .int y :: .int x :: S => ra_sh S = true ∧ k L (.int (if y < x then y else x) :: S) σ
  | _ => False
def w_cpy (k : ra_K) : ra_K := fun L S σ => match S with
  | .int n :: .int d :: .ref b :: .int i :: .ref a :: S => ra_cls a = 0 ∧ ra_cls b = 0 ∧ ra_sh S = true ∧ ¬ i < 0 ∧ ¬ d < 0 ∧ ¬ n < 0 ∧ i.toNatClampNeg + n.toNatClampNeg ≤ ra_len a ∧ d.toNatClampNeg + n.toNatClampNeg ≤ ra_len b ∧ k L S (ra_su σ b (va_cpy (σ a) (σ b) i.toNatClampNeg d.toNatClampNeg n.toNatClampNeg))
  | _ => False
def ra_go (x : Int32) (kd : Prop) : List (Int32 × Prop) → Prop
  | [] => kd
  | q :: r => (x = q.1 → q.2) ∧ (¬ x = q.1 → ra_go x kd r)
def w_sw (tb : List (Int32 × ra_K)) (kd : ra_K) : ra_K := fun L S σ => match S with
  | .int x :: S => ra_go x (kd L S σ) (tb.map (fun q => (q.1, q.2 L S σ)))
  | _ => False
def w_ir (Z : ra_R) : ra_K := fun _ S σ => match S with
  | [.int v] => Z (some (.int v)) σ
  | _ => False
def w_zr (Z : ra_R) : ra_K := fun _ S σ => match S with
  | [.int v] => (v = 0 ∨ v = 1) ∧ Z (some (.int v)) σ
  | _ => False
def w_lr (Z : ra_R) : ra_K := fun _ S σ => match S with
  | [.long v] => Z (some (.long v)) σ
  | _ => False
def w_ar (Z : ra_R) : ra_K := fun _ S σ => match S with
  | [.ref v] => Z (some (.ref v)) σ
  | _ => False
def w_vr (Z : ra_R) : ra_K := fun _ S σ => match S with
  | [] => Z none σ
  | _ => False
theorem ra_At.mono {k k' : ra_K} (h : ra_At X p l e R s m args below meth c nL Q k pc) (hk : ∀ L S σ, k' L S σ → k L S σ) : ra_At X p l e R s m args below meth c nL Q k' pc := fun L S σ H locs ls q => h L S σ H locs ls (hk L S σ q)
theorem r_iconst (F : ra_Fx X p R s m args c cc nL own) {n : Int} {v : Int32} (hd : decode cc pc = .ok (.iconst n, 1)) (hv : Int32.ofInt n = v) (h : ra_At X p l e R s m args below meth c nL Q k (pc + 1)) : ra_At X p l e R s m args below meth c nL Q (w_c v k) pc :=
  fun L S σ H locs ls q hP hS hl => lv_iconst F.1 F.2.1 hd hv (h L (.int v :: S) σ H locs ls q hP hS hl)
theorem r_bipush (F : ra_Fx X p R s m args c cc nL own) {n : Int} {v : Int32} (hd : decode cc pc = .ok (.bipush n, 2)) (hv : (Int8.ofInt n).toInt32 = v) (h : ra_At X p l e R s m args below meth c nL Q k (pc + 2)) : ra_At X p l e R s m args below meth c nL Q (w_c v k) pc :=
  fun L S σ H locs ls q hP hS hl => lv_bipush F.1 F.2.1 hd hv (h L (.int v :: S) σ H locs ls q hP hS hl)
theorem r_sipush (F : ra_Fx X p R s m args c cc nL own) {n : Int} {v : Int32} (hd : decode cc pc = .ok (.sipush n, 3)) (hv : (Int16.ofInt n).toInt32 = v) (h : ra_At X p l e R s m args below meth c nL Q k (pc + 3)) : ra_At X p l e R s m args below meth c nL Q (w_c v k) pc :=
  fun L S σ H locs ls q hP hS hl => lv_sipush F.1 F.2.1 hd hv (h L (.int v :: S) σ H locs ls q hP hS hl)
theorem r_ldc (F : ra_Fx X p R s m args c cc nL own) {i : Nat} {v : Int32} (hd : decode cc pc = .ok (.ldc i, 2)) (hw : Jvm.Cond.constant own i v ∈ ra_WS) (h : ra_At X p l e R s m args below meth c nL Q k (pc + 2)) : ra_At X p l e R s m args below meth c nL Q (w_c v k) pc :=
  fun L S σ H locs ls q hP hS hl => lv_ldc F.1 F.2.1 F.2.2.2.1 (F.2.2.2.2.1 _ hw) hd (h L (.int v :: S) σ H locs ls q hP hS hl)
theorem r_ldcw (F : ra_Fx X p R s m args c cc nL own) {i : Nat} {v : Int32} (hd : decode cc pc = .ok (.ldc_w i, 3)) (hw : Jvm.Cond.constant own i v ∈ ra_WS) (h : ra_At X p l e R s m args below meth c nL Q k (pc + 3)) : ra_At X p l e R s m args below meth c nL Q (w_c v k) pc :=
  fun L S σ H locs ls q hP hS hl => lv_ldcw F.1 F.2.1 F.2.2.2.1 (F.2.2.2.2.1 _ hw) hd (h L (.int v :: S) σ H locs ls q hP hS hl)
theorem r_ldc2 (F : ra_Fx X p R s m args c cc nL own) {i : Nat} {v : Int64} (hd : decode cc pc = .ok (.ldc2_w i, 3)) (hw : Jvm.Cond.constantLong own i v ∈ ra_WS) (h : ra_At X p l e R s m args below meth c nL Q k (pc + 3)) : ra_At X p l e R s m args below meth c nL Q (w_cl v k) pc :=
  fun L S σ H locs ls q hP hS hl => lv_ldc2 F.1 F.2.1 F.2.2.2.1 (F.2.2.2.2.1 _ hw) hd (h L (.long v :: S) σ H locs ls q hP hS hl)
theorem r_iload_n (F : ra_Fx X p R s m args c cc nL own) {n : Fin 4} {i : Nat} (hd : decode cc pc = .ok (.iload_n n, 1)) (hi : (n : Nat) = i) (h : ra_At X p l e R s m args below meth c nL Q k (pc + 1)) : ra_At X p l e R s m args below meth c nL Q (w_il i k) pc := by
  intro L S σ H locs ls q hP hS hl
  unfold w_il at q
  split at q
  · next x hx => exact lv_iload_n F.1 F.2.1 hd hi (ra_loc hl hx (by simp)) (h L (.int x :: S) σ H locs ls q hP hS hl)
  · exact q.elim
theorem r_iload (F : ra_Fx X p R s m args c cc nL own) {i : Nat} (hd : decode cc pc = .ok (.iload i, 2)) (h : ra_At X p l e R s m args below meth c nL Q k (pc + 2)) : ra_At X p l e R s m args below meth c nL Q (w_il i k) pc := by
  intro L S σ H locs ls q hP hS hl
  unfold w_il at q
  split at q
  · next x hx => exact lv_iload F.1 F.2.1 hd (ra_loc hl hx (by simp)) (h L (.int x :: S) σ H locs ls q hP hS hl)
  · exact q.elim
theorem r_lload_n (F : ra_Fx X p R s m args c cc nL own) {n : Fin 4} {i : Nat} (hd : decode cc pc = .ok (.lload_n n, 1)) (hi : (n : Nat) = i) (h : ra_At X p l e R s m args below meth c nL Q k (pc + 1)) : ra_At X p l e R s m args below meth c nL Q (w_ll i k) pc := by
  intro L S σ H locs ls q hP hS hl
  unfold w_ll at q
  split at q
  · next x hx => exact lv_lload_n F.1 F.2.1 hd hi (ra_loc hl hx (by simp)) (h L (.long x :: S) σ H locs ls q hP hS hl)
  · exact q.elim
theorem r_aload_n (F : ra_Fx X p R s m args c cc nL own) {n : Fin 4} {i : Nat} (hd : decode cc pc = .ok (.aload_n n, 1)) (hi : (n : Nat) = i) (h : ra_At X p l e R s m args below meth c nL Q k (pc + 1)) : ra_At X p l e R s m args below meth c nL Q (w_al i k) pc := by
  intro L S σ H locs ls q hP hS hl
  unfold w_al at q
  split at q
  · next x hx => exact lv_aload_n F.1 F.2.1 hd hi (ra_loc hl hx (by simp)) (h L (.ref x :: S) σ H locs ls q hP hS hl)
  · exact q.elim
theorem r_aload (F : ra_Fx X p R s m args c cc nL own) {i : Nat} (hd : decode cc pc = .ok (.aload i, 2)) (h : ra_At X p l e R s m args below meth c nL Q k (pc + 2)) : ra_At X p l e R s m args below meth c nL Q (w_al i k) pc := by
  intro L S σ H locs ls q hP hS hl
  unfold w_al at q
  split at q
  · next x hx => exact lv_aload F.1 F.2.1 hd (ra_loc hl hx (by simp)) (h L (.ref x :: S) σ H locs ls q hP hS hl)
  · exact q.elim
theorem r_istore_n (F : ra_Fx X p R s m args c cc nL own) {n : Fin 4} {i : Nat} (hd : decode cc pc = .ok (.istore_n n, 1)) (hi : (n : Nat) = i) (hn : i < nL) (h : ra_At X p l e R s m args below meth c nL Q k (pc + 1)) : ra_At X p l e R s m args below meth c nL Q (w_is i k) pc := by
  intro L S σ H locs ls q hP hS hl
  unfold w_is at q
  split at q
  · next x S => exact lv_istore_n F.1 F.2.1 hd hi hl hn rfl (fun ls' hl' => h _ S σ H locs ls' q.2 hP hS (ra_less hl' (ra_st1 q.1)))
  · exact q.elim
theorem r_istore (F : ra_Fx X p R s m args c cc nL own) {i : Nat} (hd : decode cc pc = .ok (.istore i, 2)) (hn : i < nL) (h : ra_At X p l e R s m args below meth c nL Q k (pc + 2)) : ra_At X p l e R s m args below meth c nL Q (w_is i k) pc := by
  intro L S σ H locs ls q hP hS hl
  unfold w_is at q
  split at q
  · next x S => exact lv_istore F.1 F.2.1 hd hl hn rfl (fun ls' hl' => h _ S σ H locs ls' q.2 hP hS (ra_less hl' (ra_st1 q.1)))
  · exact q.elim
theorem r_astore_n (F : ra_Fx X p R s m args c cc nL own) {n : Fin 4} {i : Nat} (hd : decode cc pc = .ok (.astore_n n, 1)) (hi : (n : Nat) = i) (hn : i < nL) (h : ra_At X p l e R s m args below meth c nL Q k (pc + 1)) : ra_At X p l e R s m args below meth c nL Q (w_as i k) pc := by
  intro L S σ H locs ls q hP hS hl
  unfold w_as at q
  split at q
  · next x S => exact lv_astore_n F.1 F.2.1 hd hi hl hn rfl (fun ls' hl' => h _ S σ H locs ls' q.2 hP hS (ra_less hl' (ra_st1 q.1)))
  · exact q.elim
theorem r_astore (F : ra_Fx X p R s m args c cc nL own) {i : Nat} (hd : decode cc pc = .ok (.astore i, 2)) (hn : i < nL) (h : ra_At X p l e R s m args below meth c nL Q k (pc + 2)) : ra_At X p l e R s m args below meth c nL Q (w_as i k) pc := by
  intro L S σ H locs ls q hP hS hl
  unfold w_as at q
  split at q
  · next x S => exact lv_astore F.1 F.2.1 hd hl hn rfl (fun ls' hl' => h _ S σ H locs ls' q.2 hP hS (ra_less hl' (ra_st1 q.1)))
  · exact q.elim
theorem r_lstore_n (F : ra_Fx X p R s m args c cc nL own) {n : Fin 4} {i : Nat} (hd : decode cc pc = .ok (.lstore_n n, 1)) (hi : (n : Nat) = i) (hn : i + 1 < nL) (h : ra_At X p l e R s m args below meth c nL Q k (pc + 1)) : ra_At X p l e R s m args below meth c nL Q (w_ls i k) pc := by
  intro L S σ H locs ls q hP hS hl
  unfold w_ls at q
  split at q
  · next x S => exact lv_lstore_n F.1 F.2.1 hd hi hl hn rfl (fun ls' hl' => h _ S σ H locs ls' q.2 hP hS (ra_less hl' (ra_st2 q.1)))
  · exact q.elim
theorem r_iinc (F : ra_Fx X p R s m args c cc nL own) {i : Nat} {n : Int} {v : Int32} (hd : decode cc pc = .ok (.iinc i n, 3)) (hv : Int32.ofInt n = v) (hn : i < nL) (h : ra_At X p l e R s m args below meth c nL Q k (pc + 3)) : ra_At X p l e R s m args below meth c nL Q (w_inc i v k) pc := by
  intro L S σ H locs ls q hP hS hl
  unfold w_inc at q
  split at q
  · next x hx =>
    obtain ⟨j, hj⟩ := List.getElem?_of_mem (ra_lst_mem (X := X) (q := (i, .int x)).mpr ⟨.int x, hx, by simp, rfl⟩)
    exact lv_iinc F.1 F.2.1 hd hl hj (by rw [hv]) hn rfl (fun ls' hl' => h _ S σ H locs ls' q.2 hP hS (ra_less hl' (ra_st1 q.1)))
  · exact q.elim
end RAS
