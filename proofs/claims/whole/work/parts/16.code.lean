theorem d_N_ringOf_0 : decode prog_13_method_37_code 0 = .ok (.iconst 0, 1) := by decide +kernel
theorem d_N_ringOf_1 : decode prog_13_method_37_code 1 = .ok (.istore_n 2, 1) := by decide +kernel
theorem d_N_ringOf_2 : decode prog_13_method_37_code 2 = .ok (.iload_n 1, 1) := by decide +kernel
theorem d_N_ringOf_3 : decode prog_13_method_37_code 3 = .ok (.istore_n 3, 1) := by decide +kernel
theorem d_N_ringOf_4 : decode prog_13_method_37_code 4 = .ok (.iload_n 2, 1) := by decide +kernel
theorem d_N_ringOf_5 : decode prog_13_method_37_code 5 = .ok (.iload_n 3, 1) := by decide +kernel
theorem d_N_ringOf_6 : decode prog_13_method_37_code 6 = .ok (.invokestatic 116, 3) := by decide +kernel
theorem d_N_ringOf_9 : decode prog_13_method_37_code 9 = .ok (.ifCond .ne 19, 3) := by decide +kernel
theorem d_N_ringOf_12 : decode prog_13_method_37_code 12 = .ok (.iload_n 2, 1) := by decide +kernel
theorem d_N_ringOf_13 : decode prog_13_method_37_code 13 = .ok (.iconst 1, 1) := by decide +kernel
theorem d_N_ringOf_14 : decode prog_13_method_37_code 14 = .ok (.iload_n 3, 1) := by decide +kernel
theorem d_N_ringOf_15 : decode prog_13_method_37_code 15 = .ok (.ishl, 1) := by decide +kernel
theorem d_N_ringOf_16 : decode prog_13_method_37_code 16 = .ok (.ior, 1) := by decide +kernel
theorem d_N_ringOf_17 : decode prog_13_method_37_code 17 = .ok (.istore_n 2, 1) := by decide +kernel
theorem d_N_ringOf_18 : decode prog_13_method_37_code 18 = .ok (.aload_n 0, 1) := by decide +kernel
theorem d_N_ringOf_19 : decode prog_13_method_37_code 19 = .ok (.getfield 25, 3) := by decide +kernel
theorem d_N_ringOf_22 : decode prog_13_method_37_code 22 = .ok (.iload_n 3, 1) := by decide +kernel
theorem d_N_ringOf_23 : decode prog_13_method_37_code 23 = .ok (.iaload, 1) := by decide +kernel
theorem d_N_ringOf_24 : decode prog_13_method_37_code 24 = .ok (.istore_n 3, 1) := by decide +kernel
theorem d_N_ringOf_25 : decode prog_13_method_37_code 25 = .ok (.goto (-21), 3) := by decide +kernel
theorem d_N_ringOf_28 : decode prog_13_method_37_code 28 = .ok (.iload_n 2, 1) := by decide +kernel
theorem d_N_ringOf_29 : decode prog_13_method_37_code 29 = .ok (.ireturn, 1) := by decide +kernel
def b_N_ringOf_28 (c0 : ra_Sp) (I : Nat → ra_K) (Z : ra_R) : ra_K := w_il 2 <| w_ir Z
def b_N_ringOf_12 (c0 : ra_Sp) (I : Nat → ra_K) (Z : ra_R) : ra_K := w_il 2 <| w_c 1 <| w_il 3 <| w_i2 (fun x y => x <<< (y &&& 31)) <| w_i2 (fun x y => x ||| y) <| w_is 2 <| w_al 0 <| w_gr 11 6 <| w_il 3 <| w_ald <| w_is 3 <| (I 4)
def b_N_ringOf_4 (c0 : ra_Sp) (I : Nat → ra_K) (Z : ra_R) : ra_K := w_il 2 <| w_il 3 <| w_cs c0 2 <| w_b1 (fun x => x = 0) (b_N_ringOf_12 c0 I Z) (b_N_ringOf_28 c0 I Z)
def b_N_ringOf_0 (c0 : ra_Sp) (I : Nat → ra_K) (Z : ra_R) : ra_K := w_c 0 <| w_is 2 <| w_il 1 <| w_is 3 <| (I 4)
theorem o_N_ringOf_28 {X : ra_X} {p : Program} {l : Launch} {e : Env} {s : State} {m : MethodId} {args : Array Value} {below : List Frame} {meth : Method} {c : Code} {Z : ra_R} {c0 : ra_Sp}  (h0 : ra_MOK l X mi_N_isIn c0) (F : ra_Fx X p rm_N_ringOf s m args c prog_13_method_37_code 4 cn_N) (hr : meth.sig.returnType = (some .int)) (hlk : meth.locks = false) {I : Nat → ra_K} (hI : ∀ t ∈ [4], ra_At X p l e rm_N_ringOf s m args below meth c 4 (MQ below (ra_Qc X Z) args s 0 0 (ra_A X)) (I t) t) : ra_At X p l e rm_N_ringOf s m args below meth c 4 (MQ below (ra_Qc X Z) args s 0 0 (ra_A X)) (b_N_ringOf_28 c0 I Z) 28 :=
  r_iload_n F d_N_ringOf_28 rfl <| r_ireturn F hr hlk d_N_ringOf_29
theorem o_N_ringOf_12 {X : ra_X} {p : Program} {l : Launch} {e : Env} {s : State} {m : MethodId} {args : Array Value} {below : List Frame} {meth : Method} {c : Code} {Z : ra_R} {c0 : ra_Sp}  (h0 : ra_MOK l X mi_N_isIn c0) (F : ra_Fx X p rm_N_ringOf s m args c prog_13_method_37_code 4 cn_N) (hr : meth.sig.returnType = (some .int)) (hlk : meth.locks = false) {I : Nat → ra_K} (hI : ∀ t ∈ [4], ra_At X p l e rm_N_ringOf s m args below meth c 4 (MQ below (ra_Qc X Z) args s 0 0 (ra_A X)) (I t) t) : ra_At X p l e rm_N_ringOf s m args below meth c 4 (MQ below (ra_Qc X Z) args s 0 0 (ra_A X)) (b_N_ringOf_12 c0 I Z) 12 :=
  r_iload_n F d_N_ringOf_12 rfl <| r_iconst F d_N_ringOf_13 (by decide) <| r_iload_n F d_N_ringOf_14 rfl <| r_ishl F d_N_ringOf_15 <| r_ior F d_N_ringOf_16 <| r_istore_n F d_N_ringOf_17 rfl (by decide) <| r_aload_n F d_N_ringOf_18 rfl <| r_getR F cg_N (j := 6) (by decide) rfl fl_N_25 d_N_ringOf_19 <| r_iload_n F d_N_ringOf_22 rfl <| r_iaload F d_N_ringOf_23 <| r_istore_n F d_N_ringOf_24 rfl (by decide) <| r_goto F d_N_ringOf_25 (by decide) (hI 4 (by decide))
theorem o_N_ringOf_4 {X : ra_X} {p : Program} {l : Launch} {e : Env} {s : State} {m : MethodId} {args : Array Value} {below : List Frame} {meth : Method} {c : Code} {Z : ra_R} {c0 : ra_Sp}  (h0 : ra_MOK l X mi_N_isIn c0) (F : ra_Fx X p rm_N_ringOf s m args c prog_13_method_37_code 4 cn_N) (hr : meth.sig.returnType = (some .int)) (hlk : meth.locks = false) {I : Nat → ra_K} (hI : ∀ t ∈ [4], ra_At X p l e rm_N_ringOf s m args below meth c 4 (MQ below (ra_Qc X Z) args s 0 0 (ra_A X)) (I t) t) : ra_At X p l e rm_N_ringOf s m args below meth c 4 (MQ below (ra_Qc X Z) args s 0 0 (ra_A X)) (b_N_ringOf_4 c0 I Z) 4 :=
  r_iload_n F d_N_ringOf_4 rfl <| r_iload_n F d_N_ringOf_5 rfl <| r_callS F h0 (co_N_isIn (by decide +kernel) (by decide +kernel)) ⟨rfl, by decide +kernel⟩ ml_N_116 st_N_isIn d_N_ringOf_6 <| r_if_ne F d_N_ringOf_9 (by decide) (o_N_ringOf_28 h0 F hr hlk hI) (o_N_ringOf_12 h0 F hr hlk hI)
theorem o_N_ringOf_0 {X : ra_X} {p : Program} {l : Launch} {e : Env} {s : State} {m : MethodId} {args : Array Value} {below : List Frame} {meth : Method} {c : Code} {Z : ra_R} {c0 : ra_Sp}  (h0 : ra_MOK l X mi_N_isIn c0) (F : ra_Fx X p rm_N_ringOf s m args c prog_13_method_37_code 4 cn_N) (hr : meth.sig.returnType = (some .int)) (hlk : meth.locks = false) {I : Nat → ra_K} (hI : ∀ t ∈ [4], ra_At X p l e rm_N_ringOf s m args below meth c 4 (MQ below (ra_Qc X Z) args s 0 0 (ra_A X)) (I t) t) : ra_At X p l e rm_N_ringOf s m args below meth c 4 (MQ below (ra_Qc X Z) args s 0 0 (ra_A X)) (b_N_ringOf_0 c0 I Z) 0 :=
  r_iconst F d_N_ringOf_0 (by decide) <| r_istore_n F d_N_ringOf_1 rfl (by decide) <| r_iload_n F d_N_ringOf_2 rfl <| r_istore_n F d_N_ringOf_3 rfl (by decide) <| (hI 4 (by decide))
theorem g_N_ringOf {l : Launch} {X : ra_X} {c0 : ra_Sp}  (h0 : ra_MOK l X mi_N_isIn c0) (sp : ra_Sp) (I : ra_R → List Value → ra_St → Nat → ra_M → ra_K) (ve : ∀ as σ Z, ra_c1 as = true → as.length = 2 → sp as σ Z → b_N_ringOf_0 c0 (ra_I (I Z as σ)) Z (ra_pad 4 as) [] σ) (v4 : ∀ as σ Z, sp as σ Z → ∀ μ L S σ1, I Z as σ 4 μ L S σ1 → b_N_ringOf_4 c0 (ra_J (I Z as σ) μ) Z L S σ1) : ra_MOK l X mi_N_ringOf sp := by
  refine ra_enter (k := fun Z as σ => b_N_ringOf_0 c0 (ra_I (I Z as σ)) Z) cn_N rfl (by decide +kernel) ⟨by decide +kernel, by decide +kernel⟩ (by decide +kernel) ?_ ve
  intro p e s m args below meth c Z as σ hsp F hr hlk
  refine o_N_ringOf_0 h0 F hr hlk (ra_cuts (b := fun t J => if t = 4 then b_N_ringOf_4 c0 J Z else fun _ _ _ => False) ?_ ?_)
  · intro t ht J hJ
    simp only [List.mem_cons, List.not_mem_nil, or_false] at ht
    rcases ht with rfl
    · exact o_N_ringOf_4 h0 F hr hlk hJ
  · intro t ht μ L S σ1 hI
    simp only [List.mem_cons, List.not_mem_nil, or_false] at ht
    rcases ht with rfl
    · exact v4 as σ Z hsp μ L S σ1 hI

theorem d_N_ones_0 : decode prog_13_method_5_code 0 = .ok (.iconst 0, 1) := by decide +kernel
theorem d_N_ones_1 : decode prog_13_method_5_code 1 = .ok (.istore_n 1, 1) := by decide +kernel
theorem d_N_ones_2 : decode prog_13_method_5_code 2 = .ok (.iconst 0, 1) := by decide +kernel
theorem d_N_ones_3 : decode prog_13_method_5_code 3 = .ok (.istore_n 2, 1) := by decide +kernel
theorem d_N_ones_4 : decode prog_13_method_5_code 4 = .ok (.iload_n 2, 1) := by decide +kernel
theorem d_N_ones_5 : decode prog_13_method_5_code 5 = .ok (.bipush 8, 2) := by decide +kernel
theorem d_N_ones_7 : decode prog_13_method_5_code 7 = .ok (.if_icmp .ge 17, 3) := by decide +kernel
theorem d_N_ones_10 : decode prog_13_method_5_code 10 = .ok (.iload_n 1, 1) := by decide +kernel
theorem d_N_ones_11 : decode prog_13_method_5_code 11 = .ok (.iload_n 0, 1) := by decide +kernel
theorem d_N_ones_12 : decode prog_13_method_5_code 12 = .ok (.iload_n 2, 1) := by decide +kernel
theorem d_N_ones_13 : decode prog_13_method_5_code 13 = .ok (.ishr, 1) := by decide +kernel
theorem d_N_ones_14 : decode prog_13_method_5_code 14 = .ok (.iconst 1, 1) := by decide +kernel
theorem d_N_ones_15 : decode prog_13_method_5_code 15 = .ok (.iand, 1) := by decide +kernel
theorem d_N_ones_16 : decode prog_13_method_5_code 16 = .ok (.iadd, 1) := by decide +kernel
theorem d_N_ones_17 : decode prog_13_method_5_code 17 = .ok (.istore_n 1, 1) := by decide +kernel
theorem d_N_ones_18 : decode prog_13_method_5_code 18 = .ok (.iinc 2 1, 3) := by decide +kernel
theorem d_N_ones_21 : decode prog_13_method_5_code 21 = .ok (.goto (-17), 3) := by decide +kernel
theorem d_N_ones_24 : decode prog_13_method_5_code 24 = .ok (.iload_n 1, 1) := by decide +kernel
theorem d_N_ones_25 : decode prog_13_method_5_code 25 = .ok (.ireturn, 1) := by decide +kernel
def b_N_ones_24 (I : Nat → ra_K) (Z : ra_R) : ra_K := w_il 1 <| w_ir Z
def b_N_ones_10 (I : Nat → ra_K) (Z : ra_R) : ra_K := w_il 1 <| w_il 0 <| w_il 2 <| w_i2 (fun x y => x >>> (y &&& 31)) <| w_c 1 <| w_i2 (fun x y => x &&& y) <| w_i2 (fun x y => x + y) <| w_is 1 <| w_inc 2 1 <| (I 4)
def b_N_ones_4 (I : Nat → ra_K) (Z : ra_R) : ra_K := w_il 2 <| w_c 8 <| w_b2 (fun x y => y ≤ x) (b_N_ones_24 I Z) (b_N_ones_10 I Z)
def b_N_ones_0 (I : Nat → ra_K) (Z : ra_R) : ra_K := w_c 0 <| w_is 1 <| w_c 0 <| w_is 2 <| (I 4)
theorem o_N_ones_24 {X : ra_X} {p : Program} {l : Launch} {e : Env} {s : State} {m : MethodId} {args : Array Value} {below : List Frame} {meth : Method} {c : Code} {Z : ra_R}  (F : ra_Fx X p rm_N_ones s m args c prog_13_method_5_code 3 cn_N) (hr : meth.sig.returnType = (some .int)) (hlk : meth.locks = false) {I : Nat → ra_K} (hI : ∀ t ∈ [4], ra_At X p l e rm_N_ones s m args below meth c 3 (MQ below (ra_Qc X Z) args s 0 0 (ra_A X)) (I t) t) : ra_At X p l e rm_N_ones s m args below meth c 3 (MQ below (ra_Qc X Z) args s 0 0 (ra_A X)) (b_N_ones_24 I Z) 24 :=
  r_iload_n F d_N_ones_24 rfl <| r_ireturn F hr hlk d_N_ones_25
theorem o_N_ones_10 {X : ra_X} {p : Program} {l : Launch} {e : Env} {s : State} {m : MethodId} {args : Array Value} {below : List Frame} {meth : Method} {c : Code} {Z : ra_R}  (F : ra_Fx X p rm_N_ones s m args c prog_13_method_5_code 3 cn_N) (hr : meth.sig.returnType = (some .int)) (hlk : meth.locks = false) {I : Nat → ra_K} (hI : ∀ t ∈ [4], ra_At X p l e rm_N_ones s m args below meth c 3 (MQ below (ra_Qc X Z) args s 0 0 (ra_A X)) (I t) t) : ra_At X p l e rm_N_ones s m args below meth c 3 (MQ below (ra_Qc X Z) args s 0 0 (ra_A X)) (b_N_ones_10 I Z) 10 :=
  r_iload_n F d_N_ones_10 rfl <| r_iload_n F d_N_ones_11 rfl <| r_iload_n F d_N_ones_12 rfl <| r_ishr F d_N_ones_13 <| r_iconst F d_N_ones_14 (by decide) <| r_iand F d_N_ones_15 <| r_iadd F d_N_ones_16 <| r_istore_n F d_N_ones_17 rfl (by decide) <| r_iinc F d_N_ones_18 (by decide) (by decide) <| r_goto F d_N_ones_21 (by decide) (hI 4 (by decide))
theorem o_N_ones_4 {X : ra_X} {p : Program} {l : Launch} {e : Env} {s : State} {m : MethodId} {args : Array Value} {below : List Frame} {meth : Method} {c : Code} {Z : ra_R}  (F : ra_Fx X p rm_N_ones s m args c prog_13_method_5_code 3 cn_N) (hr : meth.sig.returnType = (some .int)) (hlk : meth.locks = false) {I : Nat → ra_K} (hI : ∀ t ∈ [4], ra_At X p l e rm_N_ones s m args below meth c 3 (MQ below (ra_Qc X Z) args s 0 0 (ra_A X)) (I t) t) : ra_At X p l e rm_N_ones s m args below meth c 3 (MQ below (ra_Qc X Z) args s 0 0 (ra_A X)) (b_N_ones_4 I Z) 4 :=
  r_iload_n F d_N_ones_4 rfl <| r_bipush F d_N_ones_5 (by decide) <| r_icmp_ge F d_N_ones_7 (by decide) (o_N_ones_24 F hr hlk hI) (o_N_ones_10 F hr hlk hI)
theorem o_N_ones_0 {X : ra_X} {p : Program} {l : Launch} {e : Env} {s : State} {m : MethodId} {args : Array Value} {below : List Frame} {meth : Method} {c : Code} {Z : ra_R}  (F : ra_Fx X p rm_N_ones s m args c prog_13_method_5_code 3 cn_N) (hr : meth.sig.returnType = (some .int)) (hlk : meth.locks = false) {I : Nat → ra_K} (hI : ∀ t ∈ [4], ra_At X p l e rm_N_ones s m args below meth c 3 (MQ below (ra_Qc X Z) args s 0 0 (ra_A X)) (I t) t) : ra_At X p l e rm_N_ones s m args below meth c 3 (MQ below (ra_Qc X Z) args s 0 0 (ra_A X)) (b_N_ones_0 I Z) 0 :=
  r_iconst F d_N_ones_0 (by decide) <| r_istore_n F d_N_ones_1 rfl (by decide) <| r_iconst F d_N_ones_2 (by decide) <| r_istore_n F d_N_ones_3 rfl (by decide) <| (hI 4 (by decide))
theorem g_N_ones {l : Launch} {X : ra_X}  (sp : ra_Sp) (I : ra_R → List Value → ra_St → Nat → ra_M → ra_K) (ve : ∀ as σ Z, ra_c1 as = true → as.length = 1 → sp as σ Z → b_N_ones_0 (ra_I (I Z as σ)) Z (ra_pad 3 as) [] σ) (v4 : ∀ as σ Z, sp as σ Z → ∀ μ L S σ1, I Z as σ 4 μ L S σ1 → b_N_ones_4 (ra_J (I Z as σ) μ) Z L S σ1) : ra_MOK l X mi_N_ones sp := by
  refine ra_enter (k := fun Z as σ => b_N_ones_0 (ra_I (I Z as σ)) Z) cn_N rfl (by decide +kernel) ⟨by decide +kernel, by decide +kernel⟩ (by decide +kernel) ?_ ve
  intro p e s m args below meth c Z as σ hsp F hr hlk
  refine o_N_ones_0 F hr hlk (ra_cuts (b := fun t J => if t = 4 then b_N_ones_4 J Z else fun _ _ _ => False) ?_ ?_)
  · intro t ht J hJ
    simp only [List.mem_cons, List.not_mem_nil, or_false] at ht
    rcases ht with rfl
    · exact o_N_ones_4 F hr hlk hJ
  · intro t ht μ L S σ1 hI
    simp only [List.mem_cons, List.not_mem_nil, or_false] at ht
    rcases ht with rfl
    · exact v4 as σ Z hsp μ L S σ1 hI

theorem d_N_ring_0 : decode prog_13_method_38_code 0 = .ok (.aload_n 0, 1) := by decide +kernel
theorem d_N_ring_1 : decode prog_13_method_38_code 1 = .ok (.iload_n 1, 1) := by decide +kernel
theorem d_N_ring_2 : decode prog_13_method_38_code 2 = .ok (.invokevirtual 140, 3) := by decide +kernel
theorem d_N_ring_5 : decode prog_13_method_38_code 5 = .ok (.ifCond .eq 35, 3) := by decide +kernel
theorem d_N_ring_8 : decode prog_13_method_38_code 8 = .ok (.iload_n 2, 1) := by decide +kernel
theorem d_N_ring_9 : decode prog_13_method_38_code 9 = .ok (.iconst 0, 1) := by decide +kernel
theorem d_N_ring_10 : decode prog_13_method_38_code 10 = .ok (.iconst 1, 1) := by decide +kernel
theorem d_N_ring_11 : decode prog_13_method_38_code 11 = .ok (.invokestatic 101, 3) := by decide +kernel
theorem d_N_ring_14 : decode prog_13_method_38_code 14 = .ok (.ifCond .eq 26, 3) := by decide +kernel
theorem d_N_ring_17 : decode prog_13_method_38_code 17 = .ok (.iload_n 2, 1) := by decide +kernel
theorem d_N_ring_18 : decode prog_13_method_38_code 18 = .ok (.ifCond .ne 11, 3) := by decide +kernel
theorem d_N_ring_21 : decode prog_13_method_38_code 21 = .ok (.aload_n 0, 1) := by decide +kernel
theorem d_N_ring_22 : decode prog_13_method_38_code 22 = .ok (.iload_n 1, 1) := by decide +kernel
theorem d_N_ring_23 : decode prog_13_method_38_code 23 = .ok (.invokevirtual 179, 3) := by decide +kernel
theorem d_N_ring_26 : decode prog_13_method_38_code 26 = .ok (.goto 16, 3) := by decide +kernel
theorem d_N_ring_29 : decode prog_13_method_38_code 29 = .ok (.aload_n 0, 1) := by decide +kernel
theorem d_N_ring_30 : decode prog_13_method_38_code 30 = .ok (.iload_n 1, 1) := by decide +kernel
theorem d_N_ring_31 : decode prog_13_method_38_code 31 = .ok (.invokevirtual 179, 3) := by decide +kernel
theorem d_N_ring_34 : decode prog_13_method_38_code 34 = .ok (.invokestatic 182, 3) := by decide +kernel
theorem d_N_ring_37 : decode prog_13_method_38_code 37 = .ok (.goto 5, 3) := by decide +kernel
theorem d_N_ring_40 : decode prog_13_method_38_code 40 = .ok (.bipush (-2), 2) := by decide +kernel
theorem d_N_ring_42 : decode prog_13_method_38_code 42 = .ok (.ireturn, 1) := by decide +kernel
def b_N_ring_42 (c0 c1 c2 c3 : ra_Sp) (Z : ra_R) : ra_K := w_ir Z
def b_N_ring_40 (c0 c1 c2 c3 : ra_Sp) (Z : ra_R) : ra_K := w_c (-2) <| (b_N_ring_42 c0 c1 c2 c3 Z)
def b_N_ring_29 (c0 c1 c2 c3 : ra_Sp) (Z : ra_R) : ra_K := w_al 0 <| w_il 1 <| w_cv c2 2 11 <| w_cs c3 1 <| (b_N_ring_42 c0 c1 c2 c3 Z)
def b_N_ring_21 (c0 c1 c2 c3 : ra_Sp) (Z : ra_R) : ra_K := w_al 0 <| w_il 1 <| w_cv c2 2 11 <| (b_N_ring_42 c0 c1 c2 c3 Z)
def b_N_ring_17 (c0 c1 c2 c3 : ra_Sp) (Z : ra_R) : ra_K := w_il 2 <| w_b1 (fun x => x = 0) (b_N_ring_21 c0 c1 c2 c3 Z) (b_N_ring_29 c0 c1 c2 c3 Z)
def b_N_ring_8 (c0 c1 c2 c3 : ra_Sp) (Z : ra_R) : ra_K := w_il 2 <| w_c 0 <| w_c 1 <| w_cs c1 3 <| w_b1 (fun x => x = 0) (b_N_ring_40 c0 c1 c2 c3 Z) (b_N_ring_17 c0 c1 c2 c3 Z)
def b_N_ring_0 (c0 c1 c2 c3 : ra_Sp) (Z : ra_R) : ra_K := w_al 0 <| w_il 1 <| w_cv c0 2 11 <| w_b1 (fun x => x = 0) (b_N_ring_40 c0 c1 c2 c3 Z) (b_N_ring_8 c0 c1 c2 c3 Z)
theorem o_N_ring_42 {X : ra_X} {p : Program} {l : Launch} {e : Env} {s : State} {m : MethodId} {args : Array Value} {below : List Frame} {meth : Method} {c : Code} {Z : ra_R} {c0 c1 c2 c3 : ra_Sp}  (h0 : ra_MOK l X mi_N_isHouse c0) (h1 : ra_MOK l X mi_N_in c1) (h2 : ra_MOK l X mi_N_ringOf c2) (h3 : ra_MOK l X mi_N_ones c3) (F : ra_Fx X p rm_N_ring s m args c prog_13_method_38_code 3 cn_N) (hr : meth.sig.returnType = (some .int)) (hlk : meth.locks = false) : ra_At X p l e rm_N_ring s m args below meth c 3 (MQ below (ra_Qc X Z) args s 0 0 (ra_A X)) (b_N_ring_42 c0 c1 c2 c3 Z) 42 :=
  r_ireturn F hr hlk d_N_ring_42
theorem o_N_ring_40 {X : ra_X} {p : Program} {l : Launch} {e : Env} {s : State} {m : MethodId} {args : Array Value} {below : List Frame} {meth : Method} {c : Code} {Z : ra_R} {c0 c1 c2 c3 : ra_Sp}  (h0 : ra_MOK l X mi_N_isHouse c0) (h1 : ra_MOK l X mi_N_in c1) (h2 : ra_MOK l X mi_N_ringOf c2) (h3 : ra_MOK l X mi_N_ones c3) (F : ra_Fx X p rm_N_ring s m args c prog_13_method_38_code 3 cn_N) (hr : meth.sig.returnType = (some .int)) (hlk : meth.locks = false) : ra_At X p l e rm_N_ring s m args below meth c 3 (MQ below (ra_Qc X Z) args s 0 0 (ra_A X)) (b_N_ring_40 c0 c1 c2 c3 Z) 40 :=
  r_bipush F d_N_ring_40 (by decide) <| (o_N_ring_42 h0 h1 h2 h3 F hr hlk)
theorem o_N_ring_29 {X : ra_X} {p : Program} {l : Launch} {e : Env} {s : State} {m : MethodId} {args : Array Value} {below : List Frame} {meth : Method} {c : Code} {Z : ra_R} {c0 c1 c2 c3 : ra_Sp}  (h0 : ra_MOK l X mi_N_isHouse c0) (h1 : ra_MOK l X mi_N_in c1) (h2 : ra_MOK l X mi_N_ringOf c2) (h3 : ra_MOK l X mi_N_ones c3) (F : ra_Fx X p rm_N_ring s m args c prog_13_method_38_code 3 cn_N) (hr : meth.sig.returnType = (some .int)) (hlk : meth.locks = false) : ra_At X p l e rm_N_ring s m args below meth c 3 (MQ below (ra_Qc X Z) args s 0 0 (ra_A X)) (b_N_ring_29 c0 c1 c2 c3 Z) 29 :=
  r_aload_n F d_N_ring_29 rfl <| r_iload_n F d_N_ring_30 rfl <| r_callV F h2 (co_N_ringOf (by decide +kernel) (by decide +kernel)) ⟨rfl, by decide +kernel⟩ ⟨rfl, by decide⟩ ml_N_179 im_N_ringOf se_N_ringOf d_N_ring_31 <| r_callS F h3 (co_N_ones (by decide +kernel) (by decide +kernel)) ⟨rfl, by decide +kernel⟩ ml_N_182 st_N_ones d_N_ring_34 <| r_goto F d_N_ring_37 (by decide) (o_N_ring_42 h0 h1 h2 h3 F hr hlk)
theorem o_N_ring_21 {X : ra_X} {p : Program} {l : Launch} {e : Env} {s : State} {m : MethodId} {args : Array Value} {below : List Frame} {meth : Method} {c : Code} {Z : ra_R} {c0 c1 c2 c3 : ra_Sp}  (h0 : ra_MOK l X mi_N_isHouse c0) (h1 : ra_MOK l X mi_N_in c1) (h2 : ra_MOK l X mi_N_ringOf c2) (h3 : ra_MOK l X mi_N_ones c3) (F : ra_Fx X p rm_N_ring s m args c prog_13_method_38_code 3 cn_N) (hr : meth.sig.returnType = (some .int)) (hlk : meth.locks = false) : ra_At X p l e rm_N_ring s m args below meth c 3 (MQ below (ra_Qc X Z) args s 0 0 (ra_A X)) (b_N_ring_21 c0 c1 c2 c3 Z) 21 :=
  r_aload_n F d_N_ring_21 rfl <| r_iload_n F d_N_ring_22 rfl <| r_callV F h2 (co_N_ringOf (by decide +kernel) (by decide +kernel)) ⟨rfl, by decide +kernel⟩ ⟨rfl, by decide⟩ ml_N_179 im_N_ringOf se_N_ringOf d_N_ring_23 <| r_goto F d_N_ring_26 (by decide) (o_N_ring_42 h0 h1 h2 h3 F hr hlk)
theorem o_N_ring_17 {X : ra_X} {p : Program} {l : Launch} {e : Env} {s : State} {m : MethodId} {args : Array Value} {below : List Frame} {meth : Method} {c : Code} {Z : ra_R} {c0 c1 c2 c3 : ra_Sp}  (h0 : ra_MOK l X mi_N_isHouse c0) (h1 : ra_MOK l X mi_N_in c1) (h2 : ra_MOK l X mi_N_ringOf c2) (h3 : ra_MOK l X mi_N_ones c3) (F : ra_Fx X p rm_N_ring s m args c prog_13_method_38_code 3 cn_N) (hr : meth.sig.returnType = (some .int)) (hlk : meth.locks = false) : ra_At X p l e rm_N_ring s m args below meth c 3 (MQ below (ra_Qc X Z) args s 0 0 (ra_A X)) (b_N_ring_17 c0 c1 c2 c3 Z) 17 :=
  r_iload_n F d_N_ring_17 rfl <| r_if_ne F d_N_ring_18 (by decide) (o_N_ring_29 h0 h1 h2 h3 F hr hlk) (o_N_ring_21 h0 h1 h2 h3 F hr hlk)
theorem o_N_ring_8 {X : ra_X} {p : Program} {l : Launch} {e : Env} {s : State} {m : MethodId} {args : Array Value} {below : List Frame} {meth : Method} {c : Code} {Z : ra_R} {c0 c1 c2 c3 : ra_Sp}  (h0 : ra_MOK l X mi_N_isHouse c0) (h1 : ra_MOK l X mi_N_in c1) (h2 : ra_MOK l X mi_N_ringOf c2) (h3 : ra_MOK l X mi_N_ones c3) (F : ra_Fx X p rm_N_ring s m args c prog_13_method_38_code 3 cn_N) (hr : meth.sig.returnType = (some .int)) (hlk : meth.locks = false) : ra_At X p l e rm_N_ring s m args below meth c 3 (MQ below (ra_Qc X Z) args s 0 0 (ra_A X)) (b_N_ring_8 c0 c1 c2 c3 Z) 8 :=
  r_iload_n F d_N_ring_8 rfl <| r_iconst F d_N_ring_9 (by decide) <| r_iconst F d_N_ring_10 (by decide) <| r_callS F h1 (co_N_in (by decide +kernel) (by decide +kernel)) ⟨rfl, by decide +kernel⟩ ml_N_101 st_N_in d_N_ring_11 <| r_if_eq F d_N_ring_14 (by decide) (o_N_ring_40 h0 h1 h2 h3 F hr hlk) (o_N_ring_17 h0 h1 h2 h3 F hr hlk)
theorem o_N_ring_0 {X : ra_X} {p : Program} {l : Launch} {e : Env} {s : State} {m : MethodId} {args : Array Value} {below : List Frame} {meth : Method} {c : Code} {Z : ra_R} {c0 c1 c2 c3 : ra_Sp}  (h0 : ra_MOK l X mi_N_isHouse c0) (h1 : ra_MOK l X mi_N_in c1) (h2 : ra_MOK l X mi_N_ringOf c2) (h3 : ra_MOK l X mi_N_ones c3) (F : ra_Fx X p rm_N_ring s m args c prog_13_method_38_code 3 cn_N) (hr : meth.sig.returnType = (some .int)) (hlk : meth.locks = false) : ra_At X p l e rm_N_ring s m args below meth c 3 (MQ below (ra_Qc X Z) args s 0 0 (ra_A X)) (b_N_ring_0 c0 c1 c2 c3 Z) 0 :=
  r_aload_n F d_N_ring_0 rfl <| r_iload_n F d_N_ring_1 rfl <| r_callV F h0 (co_N_isHouse (by decide +kernel) (by decide +kernel)) ⟨rfl, by decide +kernel⟩ ⟨rfl, by decide⟩ ml_N_140 im_N_isHouse se_N_isHouse d_N_ring_2 <| r_if_eq F d_N_ring_5 (by decide) (o_N_ring_40 h0 h1 h2 h3 F hr hlk) (o_N_ring_8 h0 h1 h2 h3 F hr hlk)
theorem g_N_ring {l : Launch} {X : ra_X} {c0 c1 c2 c3 : ra_Sp}  (h0 : ra_MOK l X mi_N_isHouse c0) (h1 : ra_MOK l X mi_N_in c1) (h2 : ra_MOK l X mi_N_ringOf c2) (h3 : ra_MOK l X mi_N_ones c3) (sp : ra_Sp) (ve : ∀ as σ Z, ra_c1 as = true → as.length = 3 → sp as σ Z → b_N_ring_0 c0 c1 c2 c3 Z (ra_pad 3 as) [] σ) : ra_MOK l X mi_N_ring sp := by
  refine ra_enter (k := fun Z as σ => b_N_ring_0 c0 c1 c2 c3 Z) cn_N rfl (by decide +kernel) ⟨by decide +kernel, by decide +kernel⟩ (by decide +kernel) ?_ ve
  intro p e s m args below meth c Z as σ hsp F hr hlk
  exact o_N_ring_0 h0 h1 h2 h3 F hr hlk

theorem d_N_dryOf_0 : decode prog_13_method_39_code 0 = .ok (.aload_n 0, 1) := by decide +kernel
theorem d_N_dryOf_1 : decode prog_13_method_39_code 1 = .ok (.invokevirtual 134, 3) := by decide +kernel
theorem d_N_dryOf_4 : decode prog_13_method_39_code 4 = .ok (.aload_n 0, 1) := by decide +kernel
theorem d_N_dryOf_5 : decode prog_13_method_39_code 5 = .ok (.iload_n 1, 1) := by decide +kernel
theorem d_N_dryOf_6 : decode prog_13_method_39_code 6 = .ok (.invokevirtual 179, 3) := by decide +kernel
theorem d_N_dryOf_9 : decode prog_13_method_39_code 9 = .ok (.istore 4, 2) := by decide +kernel
theorem d_N_dryOf_11 : decode prog_13_method_39_code 11 = .ok (.iload 4, 2) := by decide +kernel
theorem d_N_dryOf_13 : decode prog_13_method_39_code 13 = .ok (.invokestatic 182, 3) := by decide +kernel
theorem d_N_dryOf_16 : decode prog_13_method_39_code 16 = .ok (.iconst 5, 1) := by decide +kernel
theorem d_N_dryOf_17 : decode prog_13_method_39_code 17 = .ok (.if_icmp .le 6, 3) := by decide +kernel
theorem d_N_dryOf_20 : decode prog_13_method_39_code 20 = .ok (.bipush (-4), 2) := by decide +kernel
theorem d_N_dryOf_22 : decode prog_13_method_39_code 22 = .ok (.ireturn, 1) := by decide +kernel
theorem d_N_dryOf_23 : decode prog_13_method_39_code 23 = .ok (.iconst 0, 1) := by decide +kernel
theorem d_N_dryOf_24 : decode prog_13_method_39_code 24 = .ok (.istore 5, 2) := by decide +kernel
theorem d_N_dryOf_26 : decode prog_13_method_39_code 26 = .ok (.iconst (-1), 1) := by decide +kernel
theorem d_N_dryOf_27 : decode prog_13_method_39_code 27 = .ok (.istore 6, 2) := by decide +kernel
theorem d_N_dryOf_29 : decode prog_13_method_39_code 29 = .ok (.iconst 0, 1) := by decide +kernel
theorem d_N_dryOf_30 : decode prog_13_method_39_code 30 = .ok (.istore 7, 2) := by decide +kernel
theorem d_N_dryOf_32 : decode prog_13_method_39_code 32 = .ok (.iload 7, 2) := by decide +kernel
theorem d_N_dryOf_34 : decode prog_13_method_39_code 34 = .ok (.iconst 1, 1) := by decide +kernel
theorem d_N_dryOf_35 : decode prog_13_method_39_code 35 = .ok (.iconst 2, 1) := by decide +kernel
theorem d_N_dryOf_36 : decode prog_13_method_39_code 36 = .ok (.iload 4, 2) := by decide +kernel
theorem d_N_dryOf_38 : decode prog_13_method_39_code 38 = .ok (.invokestatic 182, 3) := by decide +kernel
theorem d_N_dryOf_41 : decode prog_13_method_39_code 41 = .ok (.imul, 1) := by decide +kernel
theorem d_N_dryOf_42 : decode prog_13_method_39_code 42 = .ok (.ishl, 1) := by decide +kernel
theorem d_N_dryOf_43 : decode prog_13_method_39_code 43 = .ok (.if_icmp .ge 181, 3) := by decide +kernel
theorem d_N_dryOf_46 : decode prog_13_method_39_code 46 = .ok (.iload 7, 2) := by decide +kernel
theorem d_N_dryOf_48 : decode prog_13_method_39_code 48 = .ok (.istore 8, 2) := by decide +kernel
theorem d_N_dryOf_50 : decode prog_13_method_39_code 50 = .ok (.aload_n 0, 1) := by decide +kernel
theorem d_N_dryOf_51 : decode prog_13_method_39_code 51 = .ok (.getfield 109, 3) := by decide +kernel
theorem d_N_dryOf_54 : decode prog_13_method_39_code 54 = .ok (.iconst 1, 1) := by decide +kernel
theorem d_N_dryOf_55 : decode prog_13_method_39_code 55 = .ok (.isub, 1) := by decide +kernel
theorem d_N_dryOf_56 : decode prog_13_method_39_code 56 = .ok (.istore 9, 2) := by decide +kernel
theorem d_N_dryOf_58 : decode prog_13_method_39_code 58 = .ok (.iload 9, 2) := by decide +kernel
theorem d_N_dryOf_60 : decode prog_13_method_39_code 60 = .ok (.ifCond .lt 61, 3) := by decide +kernel
theorem d_N_dryOf_63 : decode prog_13_method_39_code 63 = .ok (.aload_n 0, 1) := by decide +kernel
theorem d_N_dryOf_64 : decode prog_13_method_39_code 64 = .ok (.getfield 37, 3) := by decide +kernel
theorem d_N_dryOf_67 : decode prog_13_method_39_code 67 = .ok (.iload 9, 2) := by decide +kernel
theorem d_N_dryOf_69 : decode prog_13_method_39_code 69 = .ok (.iload 4, 2) := by decide +kernel
theorem d_N_dryOf_71 : decode prog_13_method_39_code 71 = .ok (.iload 9, 2) := by decide +kernel
theorem d_N_dryOf_73 : decode prog_13_method_39_code 73 = .ok (.invokestatic 116, 3) := by decide +kernel
theorem d_N_dryOf_76 : decode prog_13_method_39_code 76 = .ok (.ifCond .eq 10, 3) := by decide +kernel
theorem d_N_dryOf_79 : decode prog_13_method_39_code 79 = .ok (.iload 8, 2) := by decide +kernel
theorem d_N_dryOf_81 : decode prog_13_method_39_code 81 = .ok (.iconst 4, 1) := by decide +kernel
theorem d_N_dryOf_82 : decode prog_13_method_39_code 82 = .ok (.irem, 1) := by decide +kernel
theorem d_N_dryOf_83 : decode prog_13_method_39_code 83 = .ok (.goto 10, 3) := by decide +kernel
theorem d_N_dryOf_86 : decode prog_13_method_39_code 86 = .ok (.aload_n 0, 1) := by decide +kernel
theorem d_N_dryOf_87 : decode prog_13_method_39_code 87 = .ok (.getfield 22, 3) := by decide +kernel
theorem d_N_dryOf_90 : decode prog_13_method_39_code 90 = .ok (.iload 9, 2) := by decide +kernel
theorem d_N_dryOf_92 : decode prog_13_method_39_code 92 = .ok (.iaload, 1) := by decide +kernel
theorem d_N_dryOf_93 : decode prog_13_method_39_code 93 = .ok (.iastore, 1) := by decide +kernel
theorem d_N_dryOf_94 : decode prog_13_method_39_code 94 = .ok (.iload 4, 2) := by decide +kernel
theorem d_N_dryOf_96 : decode prog_13_method_39_code 96 = .ok (.iload 9, 2) := by decide +kernel
theorem d_N_dryOf_98 : decode prog_13_method_39_code 98 = .ok (.invokestatic 116, 3) := by decide +kernel
theorem d_N_dryOf_101 : decode prog_13_method_39_code 101 = .ok (.ifCond .eq 10, 3) := by decide +kernel
theorem d_N_dryOf_104 : decode prog_13_method_39_code 104 = .ok (.iload 8, 2) := by decide +kernel
theorem d_N_dryOf_106 : decode prog_13_method_39_code 106 = .ok (.iconst 4, 1) := by decide +kernel
theorem d_N_dryOf_107 : decode prog_13_method_39_code 107 = .ok (.idiv, 1) := by decide +kernel
theorem d_N_dryOf_108 : decode prog_13_method_39_code 108 = .ok (.goto 5, 3) := by decide +kernel
theorem d_N_dryOf_111 : decode prog_13_method_39_code 111 = .ok (.iload 8, 2) := by decide +kernel
theorem d_N_dryOf_113 : decode prog_13_method_39_code 113 = .ok (.istore 8, 2) := by decide +kernel
theorem d_N_dryOf_115 : decode prog_13_method_39_code 115 = .ok (.iinc 9 (-1), 3) := by decide +kernel
theorem d_N_dryOf_118 : decode prog_13_method_39_code 118 = .ok (.goto (-60), 3) := by decide +kernel
theorem d_N_dryOf_121 : decode prog_13_method_39_code 121 = .ok (.aload_n 0, 1) := by decide +kernel
theorem d_N_dryOf_122 : decode prog_13_method_39_code 122 = .ok (.aload_n 0, 1) := by decide +kernel
theorem d_N_dryOf_123 : decode prog_13_method_39_code 123 = .ok (.getfield 147, 3) := by decide +kernel
theorem d_N_dryOf_126 : decode prog_13_method_39_code 126 = .ok (.invokevirtual 162, 3) := by decide +kernel
theorem d_N_dryOf_129 : decode prog_13_method_39_code 129 = .ok (.iconst 1, 1) := by decide +kernel
theorem d_N_dryOf_130 : decode prog_13_method_39_code 130 = .ok (.istore 9, 2) := by decide +kernel
theorem d_N_dryOf_132 : decode prog_13_method_39_code 132 = .ok (.iconst 0, 1) := by decide +kernel
theorem d_N_dryOf_133 : decode prog_13_method_39_code 133 = .ok (.istore 10, 2) := by decide +kernel
theorem d_N_dryOf_135 : decode prog_13_method_39_code 135 = .ok (.iload 10, 2) := by decide +kernel
theorem d_N_dryOf_137 : decode prog_13_method_39_code 137 = .ok (.aload_n 0, 1) := by decide +kernel
theorem d_N_dryOf_138 : decode prog_13_method_39_code 138 = .ok (.getfield 109, 3) := by decide +kernel
theorem d_N_dryOf_141 : decode prog_13_method_39_code 141 = .ok (.if_icmp .ge 42, 3) := by decide +kernel
theorem d_N_dryOf_144 : decode prog_13_method_39_code 144 = .ok (.iload 9, 2) := by decide +kernel
theorem d_N_dryOf_146 : decode prog_13_method_39_code 146 = .ok (.ifCond .eq 28, 3) := by decide +kernel
theorem d_N_dryOf_149 : decode prog_13_method_39_code 149 = .ok (.iload 4, 2) := by decide +kernel
theorem d_N_dryOf_151 : decode prog_13_method_39_code 151 = .ok (.iload 10, 2) := by decide +kernel
theorem d_N_dryOf_153 : decode prog_13_method_39_code 153 = .ok (.invokestatic 116, 3) := by decide +kernel
theorem d_N_dryOf_156 : decode prog_13_method_39_code 156 = .ok (.ifCond .eq 14, 3) := by decide +kernel
theorem d_N_dryOf_159 : decode prog_13_method_39_code 159 = .ok (.aload_n 0, 1) := by decide +kernel
theorem d_N_dryOf_160 : decode prog_13_method_39_code 160 = .ok (.getfield 46, 3) := by decide +kernel
theorem d_N_dryOf_163 : decode prog_13_method_39_code 163 = .ok (.iload 10, 2) := by decide +kernel
theorem d_N_dryOf_165 : decode prog_13_method_39_code 165 = .ok (.iaload, 1) := by decide +kernel
theorem d_N_dryOf_166 : decode prog_13_method_39_code 166 = .ok (.iload_n 2, 1) := by decide +kernel
theorem d_N_dryOf_167 : decode prog_13_method_39_code 167 = .ok (.if_icmp .gt 7, 3) := by decide +kernel
theorem d_N_dryOf_170 : decode prog_13_method_39_code 170 = .ok (.iconst 1, 1) := by decide +kernel
theorem d_N_dryOf_171 : decode prog_13_method_39_code 171 = .ok (.goto 4, 3) := by decide +kernel
theorem d_N_dryOf_174 : decode prog_13_method_39_code 174 = .ok (.iconst 0, 1) := by decide +kernel
theorem d_N_dryOf_175 : decode prog_13_method_39_code 175 = .ok (.istore 9, 2) := by decide +kernel
theorem d_N_dryOf_177 : decode prog_13_method_39_code 177 = .ok (.iinc 10 1, 3) := by decide +kernel
theorem d_N_dryOf_180 : decode prog_13_method_39_code 180 = .ok (.goto (-45), 3) := by decide +kernel
theorem d_N_dryOf_183 : decode prog_13_method_39_code 183 = .ok (.iload 5, 2) := by decide +kernel
theorem d_N_dryOf_185 : decode prog_13_method_39_code 185 = .ok (.iload 9, 2) := by decide +kernel
theorem d_N_dryOf_187 : decode prog_13_method_39_code 187 = .ok (.ifCond .eq 7, 3) := by decide +kernel
theorem d_N_dryOf_190 : decode prog_13_method_39_code 190 = .ok (.iconst 1, 1) := by decide +kernel
theorem d_N_dryOf_191 : decode prog_13_method_39_code 191 = .ok (.goto 4, 3) := by decide +kernel
theorem d_N_dryOf_194 : decode prog_13_method_39_code 194 = .ok (.iconst 0, 1) := by decide +kernel
theorem d_N_dryOf_195 : decode prog_13_method_39_code 195 = .ok (.iadd, 1) := by decide +kernel
theorem d_N_dryOf_196 : decode prog_13_method_39_code 196 = .ok (.istore 5, 2) := by decide +kernel
theorem d_N_dryOf_198 : decode prog_13_method_39_code 198 = .ok (.iload 9, 2) := by decide +kernel
theorem d_N_dryOf_200 : decode prog_13_method_39_code 200 = .ok (.ifCond .eq 14, 3) := by decide +kernel
theorem d_N_dryOf_203 : decode prog_13_method_39_code 203 = .ok (.iload 6, 2) := by decide +kernel
theorem d_N_dryOf_205 : decode prog_13_method_39_code 205 = .ok (.iconst (-1), 1) := by decide +kernel
theorem d_N_dryOf_206 : decode prog_13_method_39_code 206 = .ok (.if_icmp .ne 8, 3) := by decide +kernel
theorem d_N_dryOf_209 : decode prog_13_method_39_code 209 = .ok (.iload 7, 2) := by decide +kernel
theorem d_N_dryOf_211 : decode prog_13_method_39_code 211 = .ok (.goto 5, 3) := by decide +kernel
theorem d_N_dryOf_214 : decode prog_13_method_39_code 214 = .ok (.iload 6, 2) := by decide +kernel
theorem d_N_dryOf_216 : decode prog_13_method_39_code 216 = .ok (.istore 6, 2) := by decide +kernel
theorem d_N_dryOf_218 : decode prog_13_method_39_code 218 = .ok (.iinc 7 1, 3) := by decide +kernel
theorem d_N_dryOf_221 : decode prog_13_method_39_code 221 = .ok (.goto (-189), 3) := by decide +kernel
theorem d_N_dryOf_224 : decode prog_13_method_39_code 224 = .ok (.iload_n 3, 1) := by decide +kernel
theorem d_N_dryOf_225 : decode prog_13_method_39_code 225 = .ok (.ifCond .ne 8, 3) := by decide +kernel
theorem d_N_dryOf_228 : decode prog_13_method_39_code 228 = .ok (.iload 5, 2) := by decide +kernel
theorem d_N_dryOf_230 : decode prog_13_method_39_code 230 = .ok (.goto 5, 3) := by decide +kernel
theorem d_N_dryOf_233 : decode prog_13_method_39_code 233 = .ok (.iload 6, 2) := by decide +kernel
theorem d_N_dryOf_235 : decode prog_13_method_39_code 235 = .ok (.ireturn, 1) := by decide +kernel
def b_N_dryOf_235 (c0 c1 c2 c3 c4 : ra_Sp) (I : Nat → ra_K) (Z : ra_R) : ra_K := w_ir Z
def b_N_dryOf_233 (c0 c1 c2 c3 c4 : ra_Sp) (I : Nat → ra_K) (Z : ra_R) : ra_K := w_il 6 <| (b_N_dryOf_235 c0 c1 c2 c3 c4 I Z)
def b_N_dryOf_228 (c0 c1 c2 c3 c4 : ra_Sp) (I : Nat → ra_K) (Z : ra_R) : ra_K := w_il 5 <| (b_N_dryOf_235 c0 c1 c2 c3 c4 I Z)
def b_N_dryOf_224 (c0 c1 c2 c3 c4 : ra_Sp) (I : Nat → ra_K) (Z : ra_R) : ra_K := w_il 3 <| w_b1 (fun x => x = 0) (b_N_dryOf_228 c0 c1 c2 c3 c4 I Z) (b_N_dryOf_233 c0 c1 c2 c3 c4 I Z)
def b_N_dryOf_216 (c0 c1 c2 c3 c4 : ra_Sp) (I : Nat → ra_K) (Z : ra_R) : ra_K := w_is 6 <| w_inc 7 1 <| (I 32)
def b_N_dryOf_214 (c0 c1 c2 c3 c4 : ra_Sp) (I : Nat → ra_K) (Z : ra_R) : ra_K := w_il 6 <| (b_N_dryOf_216 c0 c1 c2 c3 c4 I Z)
def b_N_dryOf_209 (c0 c1 c2 c3 c4 : ra_Sp) (I : Nat → ra_K) (Z : ra_R) : ra_K := w_il 7 <| (b_N_dryOf_216 c0 c1 c2 c3 c4 I Z)
def b_N_dryOf_203 (c0 c1 c2 c3 c4 : ra_Sp) (I : Nat → ra_K) (Z : ra_R) : ra_K := w_il 6 <| w_c (-1) <| w_b2 (fun x y => x = y) (b_N_dryOf_209 c0 c1 c2 c3 c4 I Z) (b_N_dryOf_214 c0 c1 c2 c3 c4 I Z)
def b_N_dryOf_195 (c0 c1 c2 c3 c4 : ra_Sp) (I : Nat → ra_K) (Z : ra_R) : ra_K := w_i2 (fun x y => x + y) <| w_is 5 <| w_il 9 <| w_b1 (fun x => x = 0) (b_N_dryOf_214 c0 c1 c2 c3 c4 I Z) (b_N_dryOf_203 c0 c1 c2 c3 c4 I Z)
def b_N_dryOf_194 (c0 c1 c2 c3 c4 : ra_Sp) (I : Nat → ra_K) (Z : ra_R) : ra_K := w_c 0 <| (b_N_dryOf_195 c0 c1 c2 c3 c4 I Z)
def b_N_dryOf_190 (c0 c1 c2 c3 c4 : ra_Sp) (I : Nat → ra_K) (Z : ra_R) : ra_K := w_c 1 <| (b_N_dryOf_195 c0 c1 c2 c3 c4 I Z)
def b_N_dryOf_183 (c0 c1 c2 c3 c4 : ra_Sp) (I : Nat → ra_K) (Z : ra_R) : ra_K := w_il 5 <| w_il 9 <| w_b1 (fun x => x = 0) (b_N_dryOf_194 c0 c1 c2 c3 c4 I Z) (b_N_dryOf_190 c0 c1 c2 c3 c4 I Z)
def b_N_dryOf_175 (c0 c1 c2 c3 c4 : ra_Sp) (I : Nat → ra_K) (Z : ra_R) : ra_K := w_is 9 <| w_inc 10 1 <| (I 135)
def b_N_dryOf_174 (c0 c1 c2 c3 c4 : ra_Sp) (I : Nat → ra_K) (Z : ra_R) : ra_K := w_c 0 <| (b_N_dryOf_175 c0 c1 c2 c3 c4 I Z)
def b_N_dryOf_170 (c0 c1 c2 c3 c4 : ra_Sp) (I : Nat → ra_K) (Z : ra_R) : ra_K := w_c 1 <| (b_N_dryOf_175 c0 c1 c2 c3 c4 I Z)
def b_N_dryOf_159 (c0 c1 c2 c3 c4 : ra_Sp) (I : Nat → ra_K) (Z : ra_R) : ra_K := w_al 0 <| w_gr 11 14 <| w_il 10 <| w_ald <| w_il 2 <| w_b2 (fun x y => y < x) (b_N_dryOf_174 c0 c1 c2 c3 c4 I Z) (b_N_dryOf_170 c0 c1 c2 c3 c4 I Z)
def b_N_dryOf_149 (c0 c1 c2 c3 c4 : ra_Sp) (I : Nat → ra_K) (Z : ra_R) : ra_K := w_il 4 <| w_il 10 <| w_cs c3 2 <| w_b1 (fun x => x = 0) (b_N_dryOf_170 c0 c1 c2 c3 c4 I Z) (b_N_dryOf_159 c0 c1 c2 c3 c4 I Z)
def b_N_dryOf_144 (c0 c1 c2 c3 c4 : ra_Sp) (I : Nat → ra_K) (Z : ra_R) : ra_K := w_il 9 <| w_b1 (fun x => x = 0) (b_N_dryOf_174 c0 c1 c2 c3 c4 I Z) (b_N_dryOf_149 c0 c1 c2 c3 c4 I Z)
def b_N_dryOf_135 (c0 c1 c2 c3 c4 : ra_Sp) (I : Nat → ra_K) (Z : ra_R) : ra_K := w_il 10 <| w_al 0 <| w_gi 11 2 <| w_b2 (fun x y => y ≤ x) (b_N_dryOf_183 c0 c1 c2 c3 c4 I Z) (b_N_dryOf_144 c0 c1 c2 c3 c4 I Z)
def b_N_dryOf_121 (c0 c1 c2 c3 c4 : ra_Sp) (I : Nat → ra_K) (Z : ra_R) : ra_K := w_al 0 <| w_al 0 <| w_gi 11 7 <| w_cv c4 2 11 <| w_c 1 <| w_is 9 <| w_c 0 <| w_is 10 <| (I 135)
def b_N_dryOf_113 (c0 c1 c2 c3 c4 : ra_Sp) (I : Nat → ra_K) (Z : ra_R) : ra_K := w_is 8 <| w_inc 9 (-1) <| (I 58)
def b_N_dryOf_111 (c0 c1 c2 c3 c4 : ra_Sp) (I : Nat → ra_K) (Z : ra_R) : ra_K := w_il 8 <| (b_N_dryOf_113 c0 c1 c2 c3 c4 I Z)
def b_N_dryOf_104 (c0 c1 c2 c3 c4 : ra_Sp) (I : Nat → ra_K) (Z : ra_R) : ra_K := w_il 8 <| w_c 4 <| w_dv (fun x y => x / y) <| (b_N_dryOf_113 c0 c1 c2 c3 c4 I Z)
def b_N_dryOf_93 (c0 c1 c2 c3 c4 : ra_Sp) (I : Nat → ra_K) (Z : ra_R) : ra_K := w_ast <| w_il 4 <| w_il 9 <| w_cs c3 2 <| w_b1 (fun x => x = 0) (b_N_dryOf_111 c0 c1 c2 c3 c4 I Z) (b_N_dryOf_104 c0 c1 c2 c3 c4 I Z)
def b_N_dryOf_86 (c0 c1 c2 c3 c4 : ra_Sp) (I : Nat → ra_K) (Z : ra_R) : ra_K := w_al 0 <| w_gr 11 5 <| w_il 9 <| w_ald <| (b_N_dryOf_93 c0 c1 c2 c3 c4 I Z)
def b_N_dryOf_79 (c0 c1 c2 c3 c4 : ra_Sp) (I : Nat → ra_K) (Z : ra_R) : ra_K := w_il 8 <| w_c 4 <| w_dv (fun x y => x - x / y * y) <| (b_N_dryOf_93 c0 c1 c2 c3 c4 I Z)
def b_N_dryOf_63 (c0 c1 c2 c3 c4 : ra_Sp) (I : Nat → ra_K) (Z : ra_R) : ra_K := w_al 0 <| w_gr 11 11 <| w_il 9 <| w_il 4 <| w_il 9 <| w_cs c3 2 <| w_b1 (fun x => x = 0) (b_N_dryOf_86 c0 c1 c2 c3 c4 I Z) (b_N_dryOf_79 c0 c1 c2 c3 c4 I Z)
def b_N_dryOf_58 (c0 c1 c2 c3 c4 : ra_Sp) (I : Nat → ra_K) (Z : ra_R) : ra_K := w_il 9 <| w_b1 (fun x => x < 0) (b_N_dryOf_121 c0 c1 c2 c3 c4 I Z) (b_N_dryOf_63 c0 c1 c2 c3 c4 I Z)
def b_N_dryOf_46 (c0 c1 c2 c3 c4 : ra_Sp) (I : Nat → ra_K) (Z : ra_R) : ra_K := w_il 7 <| w_is 8 <| w_al 0 <| w_gi 11 2 <| w_c 1 <| w_i2 (fun x y => x - y) <| w_is 9 <| (I 58)
def b_N_dryOf_32 (c0 c1 c2 c3 c4 : ra_Sp) (I : Nat → ra_K) (Z : ra_R) : ra_K := w_il 7 <| w_c 1 <| w_c 2 <| w_il 4 <| w_cs c2 1 <| w_i2 (fun x y => x * y) <| w_i2 (fun x y => x <<< (y &&& 31)) <| w_b2 (fun x y => y ≤ x) (b_N_dryOf_224 c0 c1 c2 c3 c4 I Z) (b_N_dryOf_46 c0 c1 c2 c3 c4 I Z)
def b_N_dryOf_23 (c0 c1 c2 c3 c4 : ra_Sp) (I : Nat → ra_K) (Z : ra_R) : ra_K := w_c 0 <| w_is 5 <| w_c (-1) <| w_is 6 <| w_c 0 <| w_is 7 <| (I 32)
def b_N_dryOf_20 (c0 c1 c2 c3 c4 : ra_Sp) (I : Nat → ra_K) (Z : ra_R) : ra_K := w_c (-4) <| w_ir Z
def b_N_dryOf_0 (c0 c1 c2 c3 c4 : ra_Sp) (I : Nat → ra_K) (Z : ra_R) : ra_K := w_al 0 <| w_cv c0 1 11 <| w_al 0 <| w_il 1 <| w_cv c1 2 11 <| w_is 4 <| w_il 4 <| w_cs c2 1 <| w_c 5 <| w_b2 (fun x y => x ≤ y) (b_N_dryOf_23 c0 c1 c2 c3 c4 I Z) (b_N_dryOf_20 c0 c1 c2 c3 c4 I Z)
theorem o_N_dryOf_235 {X : ra_X} {p : Program} {l : Launch} {e : Env} {s : State} {m : MethodId} {args : Array Value} {below : List Frame} {meth : Method} {c : Code} {Z : ra_R} {c0 c1 c2 c3 c4 : ra_Sp}  (h0 : ra_MOK l X mi_N_reads c0) (h1 : ra_MOK l X mi_N_ringOf c1) (h2 : ra_MOK l X mi_N_ones c2) (h3 : ra_MOK l X mi_N_isIn c3) (h4 : ra_MOK l X mi_N_runs c4) (F : ra_Fx X p rm_N_dryOf s m args c prog_13_method_39_code 11 cn_N) (hr : meth.sig.returnType = (some .int)) (hlk : meth.locks = false) {I : Nat → ra_K} (hI : ∀ t ∈ [32, 58, 135], ra_At X p l e rm_N_dryOf s m args below meth c 11 (MQ below (ra_Qc X Z) args s 0 0 (ra_A X)) (I t) t) : ra_At X p l e rm_N_dryOf s m args below meth c 11 (MQ below (ra_Qc X Z) args s 0 0 (ra_A X)) (b_N_dryOf_235 c0 c1 c2 c3 c4 I Z) 235 :=
  r_ireturn F hr hlk d_N_dryOf_235
theorem o_N_dryOf_233 {X : ra_X} {p : Program} {l : Launch} {e : Env} {s : State} {m : MethodId} {args : Array Value} {below : List Frame} {meth : Method} {c : Code} {Z : ra_R} {c0 c1 c2 c3 c4 : ra_Sp}  (h0 : ra_MOK l X mi_N_reads c0) (h1 : ra_MOK l X mi_N_ringOf c1) (h2 : ra_MOK l X mi_N_ones c2) (h3 : ra_MOK l X mi_N_isIn c3) (h4 : ra_MOK l X mi_N_runs c4) (F : ra_Fx X p rm_N_dryOf s m args c prog_13_method_39_code 11 cn_N) (hr : meth.sig.returnType = (some .int)) (hlk : meth.locks = false) {I : Nat → ra_K} (hI : ∀ t ∈ [32, 58, 135], ra_At X p l e rm_N_dryOf s m args below meth c 11 (MQ below (ra_Qc X Z) args s 0 0 (ra_A X)) (I t) t) : ra_At X p l e rm_N_dryOf s m args below meth c 11 (MQ below (ra_Qc X Z) args s 0 0 (ra_A X)) (b_N_dryOf_233 c0 c1 c2 c3 c4 I Z) 233 :=
  r_iload F d_N_dryOf_233 <| (o_N_dryOf_235 h0 h1 h2 h3 h4 F hr hlk hI)
theorem o_N_dryOf_228 {X : ra_X} {p : Program} {l : Launch} {e : Env} {s : State} {m : MethodId} {args : Array Value} {below : List Frame} {meth : Method} {c : Code} {Z : ra_R} {c0 c1 c2 c3 c4 : ra_Sp}  (h0 : ra_MOK l X mi_N_reads c0) (h1 : ra_MOK l X mi_N_ringOf c1) (h2 : ra_MOK l X mi_N_ones c2) (h3 : ra_MOK l X mi_N_isIn c3) (h4 : ra_MOK l X mi_N_runs c4) (F : ra_Fx X p rm_N_dryOf s m args c prog_13_method_39_code 11 cn_N) (hr : meth.sig.returnType = (some .int)) (hlk : meth.locks = false) {I : Nat → ra_K} (hI : ∀ t ∈ [32, 58, 135], ra_At X p l e rm_N_dryOf s m args below meth c 11 (MQ below (ra_Qc X Z) args s 0 0 (ra_A X)) (I t) t) : ra_At X p l e rm_N_dryOf s m args below meth c 11 (MQ below (ra_Qc X Z) args s 0 0 (ra_A X)) (b_N_dryOf_228 c0 c1 c2 c3 c4 I Z) 228 :=
  r_iload F d_N_dryOf_228 <| r_goto F d_N_dryOf_230 (by decide) (o_N_dryOf_235 h0 h1 h2 h3 h4 F hr hlk hI)
theorem o_N_dryOf_224 {X : ra_X} {p : Program} {l : Launch} {e : Env} {s : State} {m : MethodId} {args : Array Value} {below : List Frame} {meth : Method} {c : Code} {Z : ra_R} {c0 c1 c2 c3 c4 : ra_Sp}  (h0 : ra_MOK l X mi_N_reads c0) (h1 : ra_MOK l X mi_N_ringOf c1) (h2 : ra_MOK l X mi_N_ones c2) (h3 : ra_MOK l X mi_N_isIn c3) (h4 : ra_MOK l X mi_N_runs c4) (F : ra_Fx X p rm_N_dryOf s m args c prog_13_method_39_code 11 cn_N) (hr : meth.sig.returnType = (some .int)) (hlk : meth.locks = false) {I : Nat → ra_K} (hI : ∀ t ∈ [32, 58, 135], ra_At X p l e rm_N_dryOf s m args below meth c 11 (MQ below (ra_Qc X Z) args s 0 0 (ra_A X)) (I t) t) : ra_At X p l e rm_N_dryOf s m args below meth c 11 (MQ below (ra_Qc X Z) args s 0 0 (ra_A X)) (b_N_dryOf_224 c0 c1 c2 c3 c4 I Z) 224 :=
  r_iload_n F d_N_dryOf_224 rfl <| r_if_ne F d_N_dryOf_225 (by decide) (o_N_dryOf_233 h0 h1 h2 h3 h4 F hr hlk hI) (o_N_dryOf_228 h0 h1 h2 h3 h4 F hr hlk hI)
theorem o_N_dryOf_216 {X : ra_X} {p : Program} {l : Launch} {e : Env} {s : State} {m : MethodId} {args : Array Value} {below : List Frame} {meth : Method} {c : Code} {Z : ra_R} {c0 c1 c2 c3 c4 : ra_Sp}  (h0 : ra_MOK l X mi_N_reads c0) (h1 : ra_MOK l X mi_N_ringOf c1) (h2 : ra_MOK l X mi_N_ones c2) (h3 : ra_MOK l X mi_N_isIn c3) (h4 : ra_MOK l X mi_N_runs c4) (F : ra_Fx X p rm_N_dryOf s m args c prog_13_method_39_code 11 cn_N) (hr : meth.sig.returnType = (some .int)) (hlk : meth.locks = false) {I : Nat → ra_K} (hI : ∀ t ∈ [32, 58, 135], ra_At X p l e rm_N_dryOf s m args below meth c 11 (MQ below (ra_Qc X Z) args s 0 0 (ra_A X)) (I t) t) : ra_At X p l e rm_N_dryOf s m args below meth c 11 (MQ below (ra_Qc X Z) args s 0 0 (ra_A X)) (b_N_dryOf_216 c0 c1 c2 c3 c4 I Z) 216 :=
  r_istore F d_N_dryOf_216 (by decide) <| r_iinc F d_N_dryOf_218 (by decide) (by decide) <| r_goto F d_N_dryOf_221 (by decide) (hI 32 (by decide))
theorem o_N_dryOf_214 {X : ra_X} {p : Program} {l : Launch} {e : Env} {s : State} {m : MethodId} {args : Array Value} {below : List Frame} {meth : Method} {c : Code} {Z : ra_R} {c0 c1 c2 c3 c4 : ra_Sp}  (h0 : ra_MOK l X mi_N_reads c0) (h1 : ra_MOK l X mi_N_ringOf c1) (h2 : ra_MOK l X mi_N_ones c2) (h3 : ra_MOK l X mi_N_isIn c3) (h4 : ra_MOK l X mi_N_runs c4) (F : ra_Fx X p rm_N_dryOf s m args c prog_13_method_39_code 11 cn_N) (hr : meth.sig.returnType = (some .int)) (hlk : meth.locks = false) {I : Nat → ra_K} (hI : ∀ t ∈ [32, 58, 135], ra_At X p l e rm_N_dryOf s m args below meth c 11 (MQ below (ra_Qc X Z) args s 0 0 (ra_A X)) (I t) t) : ra_At X p l e rm_N_dryOf s m args below meth c 11 (MQ below (ra_Qc X Z) args s 0 0 (ra_A X)) (b_N_dryOf_214 c0 c1 c2 c3 c4 I Z) 214 :=
  r_iload F d_N_dryOf_214 <| (o_N_dryOf_216 h0 h1 h2 h3 h4 F hr hlk hI)
theorem o_N_dryOf_209 {X : ra_X} {p : Program} {l : Launch} {e : Env} {s : State} {m : MethodId} {args : Array Value} {below : List Frame} {meth : Method} {c : Code} {Z : ra_R} {c0 c1 c2 c3 c4 : ra_Sp}  (h0 : ra_MOK l X mi_N_reads c0) (h1 : ra_MOK l X mi_N_ringOf c1) (h2 : ra_MOK l X mi_N_ones c2) (h3 : ra_MOK l X mi_N_isIn c3) (h4 : ra_MOK l X mi_N_runs c4) (F : ra_Fx X p rm_N_dryOf s m args c prog_13_method_39_code 11 cn_N) (hr : meth.sig.returnType = (some .int)) (hlk : meth.locks = false) {I : Nat → ra_K} (hI : ∀ t ∈ [32, 58, 135], ra_At X p l e rm_N_dryOf s m args below meth c 11 (MQ below (ra_Qc X Z) args s 0 0 (ra_A X)) (I t) t) : ra_At X p l e rm_N_dryOf s m args below meth c 11 (MQ below (ra_Qc X Z) args s 0 0 (ra_A X)) (b_N_dryOf_209 c0 c1 c2 c3 c4 I Z) 209 :=
  r_iload F d_N_dryOf_209 <| r_goto F d_N_dryOf_211 (by decide) (o_N_dryOf_216 h0 h1 h2 h3 h4 F hr hlk hI)
theorem o_N_dryOf_203 {X : ra_X} {p : Program} {l : Launch} {e : Env} {s : State} {m : MethodId} {args : Array Value} {below : List Frame} {meth : Method} {c : Code} {Z : ra_R} {c0 c1 c2 c3 c4 : ra_Sp}  (h0 : ra_MOK l X mi_N_reads c0) (h1 : ra_MOK l X mi_N_ringOf c1) (h2 : ra_MOK l X mi_N_ones c2) (h3 : ra_MOK l X mi_N_isIn c3) (h4 : ra_MOK l X mi_N_runs c4) (F : ra_Fx X p rm_N_dryOf s m args c prog_13_method_39_code 11 cn_N) (hr : meth.sig.returnType = (some .int)) (hlk : meth.locks = false) {I : Nat → ra_K} (hI : ∀ t ∈ [32, 58, 135], ra_At X p l e rm_N_dryOf s m args below meth c 11 (MQ below (ra_Qc X Z) args s 0 0 (ra_A X)) (I t) t) : ra_At X p l e rm_N_dryOf s m args below meth c 11 (MQ below (ra_Qc X Z) args s 0 0 (ra_A X)) (b_N_dryOf_203 c0 c1 c2 c3 c4 I Z) 203 :=
  r_iload F d_N_dryOf_203 <| r_iconst F d_N_dryOf_205 (by decide) <| r_icmp_ne F d_N_dryOf_206 (by decide) (o_N_dryOf_214 h0 h1 h2 h3 h4 F hr hlk hI) (o_N_dryOf_209 h0 h1 h2 h3 h4 F hr hlk hI)
theorem o_N_dryOf_195 {X : ra_X} {p : Program} {l : Launch} {e : Env} {s : State} {m : MethodId} {args : Array Value} {below : List Frame} {meth : Method} {c : Code} {Z : ra_R} {c0 c1 c2 c3 c4 : ra_Sp}  (h0 : ra_MOK l X mi_N_reads c0) (h1 : ra_MOK l X mi_N_ringOf c1) (h2 : ra_MOK l X mi_N_ones c2) (h3 : ra_MOK l X mi_N_isIn c3) (h4 : ra_MOK l X mi_N_runs c4) (F : ra_Fx X p rm_N_dryOf s m args c prog_13_method_39_code 11 cn_N) (hr : meth.sig.returnType = (some .int)) (hlk : meth.locks = false) {I : Nat → ra_K} (hI : ∀ t ∈ [32, 58, 135], ra_At X p l e rm_N_dryOf s m args below meth c 11 (MQ below (ra_Qc X Z) args s 0 0 (ra_A X)) (I t) t) : ra_At X p l e rm_N_dryOf s m args below meth c 11 (MQ below (ra_Qc X Z) args s 0 0 (ra_A X)) (b_N_dryOf_195 c0 c1 c2 c3 c4 I Z) 195 :=
  r_iadd F d_N_dryOf_195 <| r_istore F d_N_dryOf_196 (by decide) <| r_iload F d_N_dryOf_198 <| r_if_eq F d_N_dryOf_200 (by decide) (o_N_dryOf_214 h0 h1 h2 h3 h4 F hr hlk hI) (o_N_dryOf_203 h0 h1 h2 h3 h4 F hr hlk hI)
theorem o_N_dryOf_194 {X : ra_X} {p : Program} {l : Launch} {e : Env} {s : State} {m : MethodId} {args : Array Value} {below : List Frame} {meth : Method} {c : Code} {Z : ra_R} {c0 c1 c2 c3 c4 : ra_Sp}  (h0 : ra_MOK l X mi_N_reads c0) (h1 : ra_MOK l X mi_N_ringOf c1) (h2 : ra_MOK l X mi_N_ones c2) (h3 : ra_MOK l X mi_N_isIn c3) (h4 : ra_MOK l X mi_N_runs c4) (F : ra_Fx X p rm_N_dryOf s m args c prog_13_method_39_code 11 cn_N) (hr : meth.sig.returnType = (some .int)) (hlk : meth.locks = false) {I : Nat → ra_K} (hI : ∀ t ∈ [32, 58, 135], ra_At X p l e rm_N_dryOf s m args below meth c 11 (MQ below (ra_Qc X Z) args s 0 0 (ra_A X)) (I t) t) : ra_At X p l e rm_N_dryOf s m args below meth c 11 (MQ below (ra_Qc X Z) args s 0 0 (ra_A X)) (b_N_dryOf_194 c0 c1 c2 c3 c4 I Z) 194 :=
  r_iconst F d_N_dryOf_194 (by decide) <| (o_N_dryOf_195 h0 h1 h2 h3 h4 F hr hlk hI)
theorem o_N_dryOf_190 {X : ra_X} {p : Program} {l : Launch} {e : Env} {s : State} {m : MethodId} {args : Array Value} {below : List Frame} {meth : Method} {c : Code} {Z : ra_R} {c0 c1 c2 c3 c4 : ra_Sp}  (h0 : ra_MOK l X mi_N_reads c0) (h1 : ra_MOK l X mi_N_ringOf c1) (h2 : ra_MOK l X mi_N_ones c2) (h3 : ra_MOK l X mi_N_isIn c3) (h4 : ra_MOK l X mi_N_runs c4) (F : ra_Fx X p rm_N_dryOf s m args c prog_13_method_39_code 11 cn_N) (hr : meth.sig.returnType = (some .int)) (hlk : meth.locks = false) {I : Nat → ra_K} (hI : ∀ t ∈ [32, 58, 135], ra_At X p l e rm_N_dryOf s m args below meth c 11 (MQ below (ra_Qc X Z) args s 0 0 (ra_A X)) (I t) t) : ra_At X p l e rm_N_dryOf s m args below meth c 11 (MQ below (ra_Qc X Z) args s 0 0 (ra_A X)) (b_N_dryOf_190 c0 c1 c2 c3 c4 I Z) 190 :=
  r_iconst F d_N_dryOf_190 (by decide) <| r_goto F d_N_dryOf_191 (by decide) (o_N_dryOf_195 h0 h1 h2 h3 h4 F hr hlk hI)
theorem o_N_dryOf_183 {X : ra_X} {p : Program} {l : Launch} {e : Env} {s : State} {m : MethodId} {args : Array Value} {below : List Frame} {meth : Method} {c : Code} {Z : ra_R} {c0 c1 c2 c3 c4 : ra_Sp}  (h0 : ra_MOK l X mi_N_reads c0) (h1 : ra_MOK l X mi_N_ringOf c1) (h2 : ra_MOK l X mi_N_ones c2) (h3 : ra_MOK l X mi_N_isIn c3) (h4 : ra_MOK l X mi_N_runs c4) (F : ra_Fx X p rm_N_dryOf s m args c prog_13_method_39_code 11 cn_N) (hr : meth.sig.returnType = (some .int)) (hlk : meth.locks = false) {I : Nat → ra_K} (hI : ∀ t ∈ [32, 58, 135], ra_At X p l e rm_N_dryOf s m args below meth c 11 (MQ below (ra_Qc X Z) args s 0 0 (ra_A X)) (I t) t) : ra_At X p l e rm_N_dryOf s m args below meth c 11 (MQ below (ra_Qc X Z) args s 0 0 (ra_A X)) (b_N_dryOf_183 c0 c1 c2 c3 c4 I Z) 183 :=
  r_iload F d_N_dryOf_183 <| r_iload F d_N_dryOf_185 <| r_if_eq F d_N_dryOf_187 (by decide) (o_N_dryOf_194 h0 h1 h2 h3 h4 F hr hlk hI) (o_N_dryOf_190 h0 h1 h2 h3 h4 F hr hlk hI)
theorem o_N_dryOf_175 {X : ra_X} {p : Program} {l : Launch} {e : Env} {s : State} {m : MethodId} {args : Array Value} {below : List Frame} {meth : Method} {c : Code} {Z : ra_R} {c0 c1 c2 c3 c4 : ra_Sp}  (h0 : ra_MOK l X mi_N_reads c0) (h1 : ra_MOK l X mi_N_ringOf c1) (h2 : ra_MOK l X mi_N_ones c2) (h3 : ra_MOK l X mi_N_isIn c3) (h4 : ra_MOK l X mi_N_runs c4) (F : ra_Fx X p rm_N_dryOf s m args c prog_13_method_39_code 11 cn_N) (hr : meth.sig.returnType = (some .int)) (hlk : meth.locks = false) {I : Nat → ra_K} (hI : ∀ t ∈ [32, 58, 135], ra_At X p l e rm_N_dryOf s m args below meth c 11 (MQ below (ra_Qc X Z) args s 0 0 (ra_A X)) (I t) t) : ra_At X p l e rm_N_dryOf s m args below meth c 11 (MQ below (ra_Qc X Z) args s 0 0 (ra_A X)) (b_N_dryOf_175 c0 c1 c2 c3 c4 I Z) 175 :=
  r_istore F d_N_dryOf_175 (by decide) <| r_iinc F d_N_dryOf_177 (by decide) (by decide) <| r_goto F d_N_dryOf_180 (by decide) (hI 135 (by decide))
theorem o_N_dryOf_174 {X : ra_X} {p : Program} {l : Launch} {e : Env} {s : State} {m : MethodId} {args : Array Value} {below : List Frame} {meth : Method} {c : Code} {Z : ra_R} {c0 c1 c2 c3 c4 : ra_Sp}  (h0 : ra_MOK l X mi_N_reads c0) (h1 : ra_MOK l X mi_N_ringOf c1) (h2 : ra_MOK l X mi_N_ones c2) (h3 : ra_MOK l X mi_N_isIn c3) (h4 : ra_MOK l X mi_N_runs c4) (F : ra_Fx X p rm_N_dryOf s m args c prog_13_method_39_code 11 cn_N) (hr : meth.sig.returnType = (some .int)) (hlk : meth.locks = false) {I : Nat → ra_K} (hI : ∀ t ∈ [32, 58, 135], ra_At X p l e rm_N_dryOf s m args below meth c 11 (MQ below (ra_Qc X Z) args s 0 0 (ra_A X)) (I t) t) : ra_At X p l e rm_N_dryOf s m args below meth c 11 (MQ below (ra_Qc X Z) args s 0 0 (ra_A X)) (b_N_dryOf_174 c0 c1 c2 c3 c4 I Z) 174 :=
  r_iconst F d_N_dryOf_174 (by decide) <| (o_N_dryOf_175 h0 h1 h2 h3 h4 F hr hlk hI)
theorem o_N_dryOf_170 {X : ra_X} {p : Program} {l : Launch} {e : Env} {s : State} {m : MethodId} {args : Array Value} {below : List Frame} {meth : Method} {c : Code} {Z : ra_R} {c0 c1 c2 c3 c4 : ra_Sp}  (h0 : ra_MOK l X mi_N_reads c0) (h1 : ra_MOK l X mi_N_ringOf c1) (h2 : ra_MOK l X mi_N_ones c2) (h3 : ra_MOK l X mi_N_isIn c3) (h4 : ra_MOK l X mi_N_runs c4) (F : ra_Fx X p rm_N_dryOf s m args c prog_13_method_39_code 11 cn_N) (hr : meth.sig.returnType = (some .int)) (hlk : meth.locks = false) {I : Nat → ra_K} (hI : ∀ t ∈ [32, 58, 135], ra_At X p l e rm_N_dryOf s m args below meth c 11 (MQ below (ra_Qc X Z) args s 0 0 (ra_A X)) (I t) t) : ra_At X p l e rm_N_dryOf s m args below meth c 11 (MQ below (ra_Qc X Z) args s 0 0 (ra_A X)) (b_N_dryOf_170 c0 c1 c2 c3 c4 I Z) 170 :=
  r_iconst F d_N_dryOf_170 (by decide) <| r_goto F d_N_dryOf_171 (by decide) (o_N_dryOf_175 h0 h1 h2 h3 h4 F hr hlk hI)
theorem o_N_dryOf_159 {X : ra_X} {p : Program} {l : Launch} {e : Env} {s : State} {m : MethodId} {args : Array Value} {below : List Frame} {meth : Method} {c : Code} {Z : ra_R} {c0 c1 c2 c3 c4 : ra_Sp}  (h0 : ra_MOK l X mi_N_reads c0) (h1 : ra_MOK l X mi_N_ringOf c1) (h2 : ra_MOK l X mi_N_ones c2) (h3 : ra_MOK l X mi_N_isIn c3) (h4 : ra_MOK l X mi_N_runs c4) (F : ra_Fx X p rm_N_dryOf s m args c prog_13_method_39_code 11 cn_N) (hr : meth.sig.returnType = (some .int)) (hlk : meth.locks = false) {I : Nat → ra_K} (hI : ∀ t ∈ [32, 58, 135], ra_At X p l e rm_N_dryOf s m args below meth c 11 (MQ below (ra_Qc X Z) args s 0 0 (ra_A X)) (I t) t) : ra_At X p l e rm_N_dryOf s m args below meth c 11 (MQ below (ra_Qc X Z) args s 0 0 (ra_A X)) (b_N_dryOf_159 c0 c1 c2 c3 c4 I Z) 159 :=
  r_aload_n F d_N_dryOf_159 rfl <| r_getR F cg_N (j := 14) (by decide) rfl fl_N_46 d_N_dryOf_160 <| r_iload F d_N_dryOf_163 <| r_iaload F d_N_dryOf_165 <| r_iload_n F d_N_dryOf_166 rfl <| r_icmp_gt F d_N_dryOf_167 (by decide) (o_N_dryOf_174 h0 h1 h2 h3 h4 F hr hlk hI) (o_N_dryOf_170 h0 h1 h2 h3 h4 F hr hlk hI)
theorem o_N_dryOf_149 {X : ra_X} {p : Program} {l : Launch} {e : Env} {s : State} {m : MethodId} {args : Array Value} {below : List Frame} {meth : Method} {c : Code} {Z : ra_R} {c0 c1 c2 c3 c4 : ra_Sp}  (h0 : ra_MOK l X mi_N_reads c0) (h1 : ra_MOK l X mi_N_ringOf c1) (h2 : ra_MOK l X mi_N_ones c2) (h3 : ra_MOK l X mi_N_isIn c3) (h4 : ra_MOK l X mi_N_runs c4) (F : ra_Fx X p rm_N_dryOf s m args c prog_13_method_39_code 11 cn_N) (hr : meth.sig.returnType = (some .int)) (hlk : meth.locks = false) {I : Nat → ra_K} (hI : ∀ t ∈ [32, 58, 135], ra_At X p l e rm_N_dryOf s m args below meth c 11 (MQ below (ra_Qc X Z) args s 0 0 (ra_A X)) (I t) t) : ra_At X p l e rm_N_dryOf s m args below meth c 11 (MQ below (ra_Qc X Z) args s 0 0 (ra_A X)) (b_N_dryOf_149 c0 c1 c2 c3 c4 I Z) 149 :=
  r_iload F d_N_dryOf_149 <| r_iload F d_N_dryOf_151 <| r_callS F h3 (co_N_isIn (by decide +kernel) (by decide +kernel)) ⟨rfl, by decide +kernel⟩ ml_N_116 st_N_isIn d_N_dryOf_153 <| r_if_eq F d_N_dryOf_156 (by decide) (o_N_dryOf_170 h0 h1 h2 h3 h4 F hr hlk hI) (o_N_dryOf_159 h0 h1 h2 h3 h4 F hr hlk hI)
theorem o_N_dryOf_144 {X : ra_X} {p : Program} {l : Launch} {e : Env} {s : State} {m : MethodId} {args : Array Value} {below : List Frame} {meth : Method} {c : Code} {Z : ra_R} {c0 c1 c2 c3 c4 : ra_Sp}  (h0 : ra_MOK l X mi_N_reads c0) (h1 : ra_MOK l X mi_N_ringOf c1) (h2 : ra_MOK l X mi_N_ones c2) (h3 : ra_MOK l X mi_N_isIn c3) (h4 : ra_MOK l X mi_N_runs c4) (F : ra_Fx X p rm_N_dryOf s m args c prog_13_method_39_code 11 cn_N) (hr : meth.sig.returnType = (some .int)) (hlk : meth.locks = false) {I : Nat → ra_K} (hI : ∀ t ∈ [32, 58, 135], ra_At X p l e rm_N_dryOf s m args below meth c 11 (MQ below (ra_Qc X Z) args s 0 0 (ra_A X)) (I t) t) : ra_At X p l e rm_N_dryOf s m args below meth c 11 (MQ below (ra_Qc X Z) args s 0 0 (ra_A X)) (b_N_dryOf_144 c0 c1 c2 c3 c4 I Z) 144 :=
  r_iload F d_N_dryOf_144 <| r_if_eq F d_N_dryOf_146 (by decide) (o_N_dryOf_174 h0 h1 h2 h3 h4 F hr hlk hI) (o_N_dryOf_149 h0 h1 h2 h3 h4 F hr hlk hI)
theorem o_N_dryOf_135 {X : ra_X} {p : Program} {l : Launch} {e : Env} {s : State} {m : MethodId} {args : Array Value} {below : List Frame} {meth : Method} {c : Code} {Z : ra_R} {c0 c1 c2 c3 c4 : ra_Sp}  (h0 : ra_MOK l X mi_N_reads c0) (h1 : ra_MOK l X mi_N_ringOf c1) (h2 : ra_MOK l X mi_N_ones c2) (h3 : ra_MOK l X mi_N_isIn c3) (h4 : ra_MOK l X mi_N_runs c4) (F : ra_Fx X p rm_N_dryOf s m args c prog_13_method_39_code 11 cn_N) (hr : meth.sig.returnType = (some .int)) (hlk : meth.locks = false) {I : Nat → ra_K} (hI : ∀ t ∈ [32, 58, 135], ra_At X p l e rm_N_dryOf s m args below meth c 11 (MQ below (ra_Qc X Z) args s 0 0 (ra_A X)) (I t) t) : ra_At X p l e rm_N_dryOf s m args below meth c 11 (MQ below (ra_Qc X Z) args s 0 0 (ra_A X)) (b_N_dryOf_135 c0 c1 c2 c3 c4 I Z) 135 :=
  r_iload F d_N_dryOf_135 <| r_aload_n F d_N_dryOf_137 rfl <| r_getI F cg_N (j := 2) (by decide) rfl fl_N_109 d_N_dryOf_138 <| r_icmp_ge F d_N_dryOf_141 (by decide) (o_N_dryOf_183 h0 h1 h2 h3 h4 F hr hlk hI) (o_N_dryOf_144 h0 h1 h2 h3 h4 F hr hlk hI)
theorem o_N_dryOf_121 {X : ra_X} {p : Program} {l : Launch} {e : Env} {s : State} {m : MethodId} {args : Array Value} {below : List Frame} {meth : Method} {c : Code} {Z : ra_R} {c0 c1 c2 c3 c4 : ra_Sp}  (h0 : ra_MOK l X mi_N_reads c0) (h1 : ra_MOK l X mi_N_ringOf c1) (h2 : ra_MOK l X mi_N_ones c2) (h3 : ra_MOK l X mi_N_isIn c3) (h4 : ra_MOK l X mi_N_runs c4) (F : ra_Fx X p rm_N_dryOf s m args c prog_13_method_39_code 11 cn_N) (hr : meth.sig.returnType = (some .int)) (hlk : meth.locks = false) {I : Nat → ra_K} (hI : ∀ t ∈ [32, 58, 135], ra_At X p l e rm_N_dryOf s m args below meth c 11 (MQ below (ra_Qc X Z) args s 0 0 (ra_A X)) (I t) t) : ra_At X p l e rm_N_dryOf s m args below meth c 11 (MQ below (ra_Qc X Z) args s 0 0 (ra_A X)) (b_N_dryOf_121 c0 c1 c2 c3 c4 I Z) 121 :=
  r_aload_n F d_N_dryOf_121 rfl <| r_aload_n F d_N_dryOf_122 rfl <| r_getI F cg_N (j := 7) (by decide) rfl fl_N_147 d_N_dryOf_123 <| r_callV F h4 (co_N_runs (by decide +kernel) (by decide +kernel)) ⟨rfl, by decide +kernel⟩ ⟨rfl, by decide⟩ ml_N_162 im_N_runs se_N_runs d_N_dryOf_126 <| r_iconst F d_N_dryOf_129 (by decide) <| r_istore F d_N_dryOf_130 (by decide) <| r_iconst F d_N_dryOf_132 (by decide) <| r_istore F d_N_dryOf_133 (by decide) <| (hI 135 (by decide))
theorem o_N_dryOf_113 {X : ra_X} {p : Program} {l : Launch} {e : Env} {s : State} {m : MethodId} {args : Array Value} {below : List Frame} {meth : Method} {c : Code} {Z : ra_R} {c0 c1 c2 c3 c4 : ra_Sp}  (h0 : ra_MOK l X mi_N_reads c0) (h1 : ra_MOK l X mi_N_ringOf c1) (h2 : ra_MOK l X mi_N_ones c2) (h3 : ra_MOK l X mi_N_isIn c3) (h4 : ra_MOK l X mi_N_runs c4) (F : ra_Fx X p rm_N_dryOf s m args c prog_13_method_39_code 11 cn_N) (hr : meth.sig.returnType = (some .int)) (hlk : meth.locks = false) {I : Nat → ra_K} (hI : ∀ t ∈ [32, 58, 135], ra_At X p l e rm_N_dryOf s m args below meth c 11 (MQ below (ra_Qc X Z) args s 0 0 (ra_A X)) (I t) t) : ra_At X p l e rm_N_dryOf s m args below meth c 11 (MQ below (ra_Qc X Z) args s 0 0 (ra_A X)) (b_N_dryOf_113 c0 c1 c2 c3 c4 I Z) 113 :=
  r_istore F d_N_dryOf_113 (by decide) <| r_iinc F d_N_dryOf_115 (by decide) (by decide) <| r_goto F d_N_dryOf_118 (by decide) (hI 58 (by decide))
theorem o_N_dryOf_111 {X : ra_X} {p : Program} {l : Launch} {e : Env} {s : State} {m : MethodId} {args : Array Value} {below : List Frame} {meth : Method} {c : Code} {Z : ra_R} {c0 c1 c2 c3 c4 : ra_Sp}  (h0 : ra_MOK l X mi_N_reads c0) (h1 : ra_MOK l X mi_N_ringOf c1) (h2 : ra_MOK l X mi_N_ones c2) (h3 : ra_MOK l X mi_N_isIn c3) (h4 : ra_MOK l X mi_N_runs c4) (F : ra_Fx X p rm_N_dryOf s m args c prog_13_method_39_code 11 cn_N) (hr : meth.sig.returnType = (some .int)) (hlk : meth.locks = false) {I : Nat → ra_K} (hI : ∀ t ∈ [32, 58, 135], ra_At X p l e rm_N_dryOf s m args below meth c 11 (MQ below (ra_Qc X Z) args s 0 0 (ra_A X)) (I t) t) : ra_At X p l e rm_N_dryOf s m args below meth c 11 (MQ below (ra_Qc X Z) args s 0 0 (ra_A X)) (b_N_dryOf_111 c0 c1 c2 c3 c4 I Z) 111 :=
  r_iload F d_N_dryOf_111 <| (o_N_dryOf_113 h0 h1 h2 h3 h4 F hr hlk hI)
theorem o_N_dryOf_104 {X : ra_X} {p : Program} {l : Launch} {e : Env} {s : State} {m : MethodId} {args : Array Value} {below : List Frame} {meth : Method} {c : Code} {Z : ra_R} {c0 c1 c2 c3 c4 : ra_Sp}  (h0 : ra_MOK l X mi_N_reads c0) (h1 : ra_MOK l X mi_N_ringOf c1) (h2 : ra_MOK l X mi_N_ones c2) (h3 : ra_MOK l X mi_N_isIn c3) (h4 : ra_MOK l X mi_N_runs c4) (F : ra_Fx X p rm_N_dryOf s m args c prog_13_method_39_code 11 cn_N) (hr : meth.sig.returnType = (some .int)) (hlk : meth.locks = false) {I : Nat → ra_K} (hI : ∀ t ∈ [32, 58, 135], ra_At X p l e rm_N_dryOf s m args below meth c 11 (MQ below (ra_Qc X Z) args s 0 0 (ra_A X)) (I t) t) : ra_At X p l e rm_N_dryOf s m args below meth c 11 (MQ below (ra_Qc X Z) args s 0 0 (ra_A X)) (b_N_dryOf_104 c0 c1 c2 c3 c4 I Z) 104 :=
  r_iload F d_N_dryOf_104 <| r_iconst F d_N_dryOf_106 (by decide) <| r_idiv F d_N_dryOf_107 <| r_goto F d_N_dryOf_108 (by decide) (o_N_dryOf_113 h0 h1 h2 h3 h4 F hr hlk hI)
theorem o_N_dryOf_93 {X : ra_X} {p : Program} {l : Launch} {e : Env} {s : State} {m : MethodId} {args : Array Value} {below : List Frame} {meth : Method} {c : Code} {Z : ra_R} {c0 c1 c2 c3 c4 : ra_Sp}  (h0 : ra_MOK l X mi_N_reads c0) (h1 : ra_MOK l X mi_N_ringOf c1) (h2 : ra_MOK l X mi_N_ones c2) (h3 : ra_MOK l X mi_N_isIn c3) (h4 : ra_MOK l X mi_N_runs c4) (F : ra_Fx X p rm_N_dryOf s m args c prog_13_method_39_code 11 cn_N) (hr : meth.sig.returnType = (some .int)) (hlk : meth.locks = false) {I : Nat → ra_K} (hI : ∀ t ∈ [32, 58, 135], ra_At X p l e rm_N_dryOf s m args below meth c 11 (MQ below (ra_Qc X Z) args s 0 0 (ra_A X)) (I t) t) : ra_At X p l e rm_N_dryOf s m args below meth c 11 (MQ below (ra_Qc X Z) args s 0 0 (ra_A X)) (b_N_dryOf_93 c0 c1 c2 c3 c4 I Z) 93 :=
  r_iastore F d_N_dryOf_93 <| r_iload F d_N_dryOf_94 <| r_iload F d_N_dryOf_96 <| r_callS F h3 (co_N_isIn (by decide +kernel) (by decide +kernel)) ⟨rfl, by decide +kernel⟩ ml_N_116 st_N_isIn d_N_dryOf_98 <| r_if_eq F d_N_dryOf_101 (by decide) (o_N_dryOf_111 h0 h1 h2 h3 h4 F hr hlk hI) (o_N_dryOf_104 h0 h1 h2 h3 h4 F hr hlk hI)
theorem o_N_dryOf_86 {X : ra_X} {p : Program} {l : Launch} {e : Env} {s : State} {m : MethodId} {args : Array Value} {below : List Frame} {meth : Method} {c : Code} {Z : ra_R} {c0 c1 c2 c3 c4 : ra_Sp}  (h0 : ra_MOK l X mi_N_reads c0) (h1 : ra_MOK l X mi_N_ringOf c1) (h2 : ra_MOK l X mi_N_ones c2) (h3 : ra_MOK l X mi_N_isIn c3) (h4 : ra_MOK l X mi_N_runs c4) (F : ra_Fx X p rm_N_dryOf s m args c prog_13_method_39_code 11 cn_N) (hr : meth.sig.returnType = (some .int)) (hlk : meth.locks = false) {I : Nat → ra_K} (hI : ∀ t ∈ [32, 58, 135], ra_At X p l e rm_N_dryOf s m args below meth c 11 (MQ below (ra_Qc X Z) args s 0 0 (ra_A X)) (I t) t) : ra_At X p l e rm_N_dryOf s m args below meth c 11 (MQ below (ra_Qc X Z) args s 0 0 (ra_A X)) (b_N_dryOf_86 c0 c1 c2 c3 c4 I Z) 86 :=
  r_aload_n F d_N_dryOf_86 rfl <| r_getR F cg_N (j := 5) (by decide) rfl fl_N_22 d_N_dryOf_87 <| r_iload F d_N_dryOf_90 <| r_iaload F d_N_dryOf_92 <| (o_N_dryOf_93 h0 h1 h2 h3 h4 F hr hlk hI)
theorem o_N_dryOf_79 {X : ra_X} {p : Program} {l : Launch} {e : Env} {s : State} {m : MethodId} {args : Array Value} {below : List Frame} {meth : Method} {c : Code} {Z : ra_R} {c0 c1 c2 c3 c4 : ra_Sp}  (h0 : ra_MOK l X mi_N_reads c0) (h1 : ra_MOK l X mi_N_ringOf c1) (h2 : ra_MOK l X mi_N_ones c2) (h3 : ra_MOK l X mi_N_isIn c3) (h4 : ra_MOK l X mi_N_runs c4) (F : ra_Fx X p rm_N_dryOf s m args c prog_13_method_39_code 11 cn_N) (hr : meth.sig.returnType = (some .int)) (hlk : meth.locks = false) {I : Nat → ra_K} (hI : ∀ t ∈ [32, 58, 135], ra_At X p l e rm_N_dryOf s m args below meth c 11 (MQ below (ra_Qc X Z) args s 0 0 (ra_A X)) (I t) t) : ra_At X p l e rm_N_dryOf s m args below meth c 11 (MQ below (ra_Qc X Z) args s 0 0 (ra_A X)) (b_N_dryOf_79 c0 c1 c2 c3 c4 I Z) 79 :=
  r_iload F d_N_dryOf_79 <| r_iconst F d_N_dryOf_81 (by decide) <| r_irem F d_N_dryOf_82 <| r_goto F d_N_dryOf_83 (by decide) (o_N_dryOf_93 h0 h1 h2 h3 h4 F hr hlk hI)
theorem o_N_dryOf_63 {X : ra_X} {p : Program} {l : Launch} {e : Env} {s : State} {m : MethodId} {args : Array Value} {below : List Frame} {meth : Method} {c : Code} {Z : ra_R} {c0 c1 c2 c3 c4 : ra_Sp}  (h0 : ra_MOK l X mi_N_reads c0) (h1 : ra_MOK l X mi_N_ringOf c1) (h2 : ra_MOK l X mi_N_ones c2) (h3 : ra_MOK l X mi_N_isIn c3) (h4 : ra_MOK l X mi_N_runs c4) (F : ra_Fx X p rm_N_dryOf s m args c prog_13_method_39_code 11 cn_N) (hr : meth.sig.returnType = (some .int)) (hlk : meth.locks = false) {I : Nat → ra_K} (hI : ∀ t ∈ [32, 58, 135], ra_At X p l e rm_N_dryOf s m args below meth c 11 (MQ below (ra_Qc X Z) args s 0 0 (ra_A X)) (I t) t) : ra_At X p l e rm_N_dryOf s m args below meth c 11 (MQ below (ra_Qc X Z) args s 0 0 (ra_A X)) (b_N_dryOf_63 c0 c1 c2 c3 c4 I Z) 63 :=
  r_aload_n F d_N_dryOf_63 rfl <| r_getR F cg_N (j := 11) (by decide) rfl fl_N_37 d_N_dryOf_64 <| r_iload F d_N_dryOf_67 <| r_iload F d_N_dryOf_69 <| r_iload F d_N_dryOf_71 <| r_callS F h3 (co_N_isIn (by decide +kernel) (by decide +kernel)) ⟨rfl, by decide +kernel⟩ ml_N_116 st_N_isIn d_N_dryOf_73 <| r_if_eq F d_N_dryOf_76 (by decide) (o_N_dryOf_86 h0 h1 h2 h3 h4 F hr hlk hI) (o_N_dryOf_79 h0 h1 h2 h3 h4 F hr hlk hI)
theorem o_N_dryOf_58 {X : ra_X} {p : Program} {l : Launch} {e : Env} {s : State} {m : MethodId} {args : Array Value} {below : List Frame} {meth : Method} {c : Code} {Z : ra_R} {c0 c1 c2 c3 c4 : ra_Sp}  (h0 : ra_MOK l X mi_N_reads c0) (h1 : ra_MOK l X mi_N_ringOf c1) (h2 : ra_MOK l X mi_N_ones c2) (h3 : ra_MOK l X mi_N_isIn c3) (h4 : ra_MOK l X mi_N_runs c4) (F : ra_Fx X p rm_N_dryOf s m args c prog_13_method_39_code 11 cn_N) (hr : meth.sig.returnType = (some .int)) (hlk : meth.locks = false) {I : Nat → ra_K} (hI : ∀ t ∈ [32, 58, 135], ra_At X p l e rm_N_dryOf s m args below meth c 11 (MQ below (ra_Qc X Z) args s 0 0 (ra_A X)) (I t) t) : ra_At X p l e rm_N_dryOf s m args below meth c 11 (MQ below (ra_Qc X Z) args s 0 0 (ra_A X)) (b_N_dryOf_58 c0 c1 c2 c3 c4 I Z) 58 :=
  r_iload F d_N_dryOf_58 <| r_if_lt F d_N_dryOf_60 (by decide) (o_N_dryOf_121 h0 h1 h2 h3 h4 F hr hlk hI) (o_N_dryOf_63 h0 h1 h2 h3 h4 F hr hlk hI)
theorem o_N_dryOf_46 {X : ra_X} {p : Program} {l : Launch} {e : Env} {s : State} {m : MethodId} {args : Array Value} {below : List Frame} {meth : Method} {c : Code} {Z : ra_R} {c0 c1 c2 c3 c4 : ra_Sp}  (h0 : ra_MOK l X mi_N_reads c0) (h1 : ra_MOK l X mi_N_ringOf c1) (h2 : ra_MOK l X mi_N_ones c2) (h3 : ra_MOK l X mi_N_isIn c3) (h4 : ra_MOK l X mi_N_runs c4) (F : ra_Fx X p rm_N_dryOf s m args c prog_13_method_39_code 11 cn_N) (hr : meth.sig.returnType = (some .int)) (hlk : meth.locks = false) {I : Nat → ra_K} (hI : ∀ t ∈ [32, 58, 135], ra_At X p l e rm_N_dryOf s m args below meth c 11 (MQ below (ra_Qc X Z) args s 0 0 (ra_A X)) (I t) t) : ra_At X p l e rm_N_dryOf s m args below meth c 11 (MQ below (ra_Qc X Z) args s 0 0 (ra_A X)) (b_N_dryOf_46 c0 c1 c2 c3 c4 I Z) 46 :=
  r_iload F d_N_dryOf_46 <| r_istore F d_N_dryOf_48 (by decide) <| r_aload_n F d_N_dryOf_50 rfl <| r_getI F cg_N (j := 2) (by decide) rfl fl_N_109 d_N_dryOf_51 <| r_iconst F d_N_dryOf_54 (by decide) <| r_isub F d_N_dryOf_55 <| r_istore F d_N_dryOf_56 (by decide) <| (hI 58 (by decide))
theorem o_N_dryOf_32 {X : ra_X} {p : Program} {l : Launch} {e : Env} {s : State} {m : MethodId} {args : Array Value} {below : List Frame} {meth : Method} {c : Code} {Z : ra_R} {c0 c1 c2 c3 c4 : ra_Sp}  (h0 : ra_MOK l X mi_N_reads c0) (h1 : ra_MOK l X mi_N_ringOf c1) (h2 : ra_MOK l X mi_N_ones c2) (h3 : ra_MOK l X mi_N_isIn c3) (h4 : ra_MOK l X mi_N_runs c4) (F : ra_Fx X p rm_N_dryOf s m args c prog_13_method_39_code 11 cn_N) (hr : meth.sig.returnType = (some .int)) (hlk : meth.locks = false) {I : Nat → ra_K} (hI : ∀ t ∈ [32, 58, 135], ra_At X p l e rm_N_dryOf s m args below meth c 11 (MQ below (ra_Qc X Z) args s 0 0 (ra_A X)) (I t) t) : ra_At X p l e rm_N_dryOf s m args below meth c 11 (MQ below (ra_Qc X Z) args s 0 0 (ra_A X)) (b_N_dryOf_32 c0 c1 c2 c3 c4 I Z) 32 :=
  r_iload F d_N_dryOf_32 <| r_iconst F d_N_dryOf_34 (by decide) <| r_iconst F d_N_dryOf_35 (by decide) <| r_iload F d_N_dryOf_36 <| r_callS F h2 (co_N_ones (by decide +kernel) (by decide +kernel)) ⟨rfl, by decide +kernel⟩ ml_N_182 st_N_ones d_N_dryOf_38 <| r_imul F d_N_dryOf_41 <| r_ishl F d_N_dryOf_42 <| r_icmp_ge F d_N_dryOf_43 (by decide) (o_N_dryOf_224 h0 h1 h2 h3 h4 F hr hlk hI) (o_N_dryOf_46 h0 h1 h2 h3 h4 F hr hlk hI)
theorem o_N_dryOf_23 {X : ra_X} {p : Program} {l : Launch} {e : Env} {s : State} {m : MethodId} {args : Array Value} {below : List Frame} {meth : Method} {c : Code} {Z : ra_R} {c0 c1 c2 c3 c4 : ra_Sp}  (h0 : ra_MOK l X mi_N_reads c0) (h1 : ra_MOK l X mi_N_ringOf c1) (h2 : ra_MOK l X mi_N_ones c2) (h3 : ra_MOK l X mi_N_isIn c3) (h4 : ra_MOK l X mi_N_runs c4) (F : ra_Fx X p rm_N_dryOf s m args c prog_13_method_39_code 11 cn_N) (hr : meth.sig.returnType = (some .int)) (hlk : meth.locks = false) {I : Nat → ra_K} (hI : ∀ t ∈ [32, 58, 135], ra_At X p l e rm_N_dryOf s m args below meth c 11 (MQ below (ra_Qc X Z) args s 0 0 (ra_A X)) (I t) t) : ra_At X p l e rm_N_dryOf s m args below meth c 11 (MQ below (ra_Qc X Z) args s 0 0 (ra_A X)) (b_N_dryOf_23 c0 c1 c2 c3 c4 I Z) 23 :=
  r_iconst F d_N_dryOf_23 (by decide) <| r_istore F d_N_dryOf_24 (by decide) <| r_iconst F d_N_dryOf_26 (by decide) <| r_istore F d_N_dryOf_27 (by decide) <| r_iconst F d_N_dryOf_29 (by decide) <| r_istore F d_N_dryOf_30 (by decide) <| (hI 32 (by decide))
theorem o_N_dryOf_20 {X : ra_X} {p : Program} {l : Launch} {e : Env} {s : State} {m : MethodId} {args : Array Value} {below : List Frame} {meth : Method} {c : Code} {Z : ra_R} {c0 c1 c2 c3 c4 : ra_Sp}  (h0 : ra_MOK l X mi_N_reads c0) (h1 : ra_MOK l X mi_N_ringOf c1) (h2 : ra_MOK l X mi_N_ones c2) (h3 : ra_MOK l X mi_N_isIn c3) (h4 : ra_MOK l X mi_N_runs c4) (F : ra_Fx X p rm_N_dryOf s m args c prog_13_method_39_code 11 cn_N) (hr : meth.sig.returnType = (some .int)) (hlk : meth.locks = false) {I : Nat → ra_K} (hI : ∀ t ∈ [32, 58, 135], ra_At X p l e rm_N_dryOf s m args below meth c 11 (MQ below (ra_Qc X Z) args s 0 0 (ra_A X)) (I t) t) : ra_At X p l e rm_N_dryOf s m args below meth c 11 (MQ below (ra_Qc X Z) args s 0 0 (ra_A X)) (b_N_dryOf_20 c0 c1 c2 c3 c4 I Z) 20 :=
  r_bipush F d_N_dryOf_20 (by decide) <| r_ireturn F hr hlk d_N_dryOf_22
theorem o_N_dryOf_0 {X : ra_X} {p : Program} {l : Launch} {e : Env} {s : State} {m : MethodId} {args : Array Value} {below : List Frame} {meth : Method} {c : Code} {Z : ra_R} {c0 c1 c2 c3 c4 : ra_Sp}  (h0 : ra_MOK l X mi_N_reads c0) (h1 : ra_MOK l X mi_N_ringOf c1) (h2 : ra_MOK l X mi_N_ones c2) (h3 : ra_MOK l X mi_N_isIn c3) (h4 : ra_MOK l X mi_N_runs c4) (F : ra_Fx X p rm_N_dryOf s m args c prog_13_method_39_code 11 cn_N) (hr : meth.sig.returnType = (some .int)) (hlk : meth.locks = false) {I : Nat → ra_K} (hI : ∀ t ∈ [32, 58, 135], ra_At X p l e rm_N_dryOf s m args below meth c 11 (MQ below (ra_Qc X Z) args s 0 0 (ra_A X)) (I t) t) : ra_At X p l e rm_N_dryOf s m args below meth c 11 (MQ below (ra_Qc X Z) args s 0 0 (ra_A X)) (b_N_dryOf_0 c0 c1 c2 c3 c4 I Z) 0 :=
  r_aload_n F d_N_dryOf_0 rfl <| r_callV F h0 (co_N_reads (by decide +kernel) (by decide +kernel)) ⟨rfl, by decide +kernel⟩ ⟨rfl, by decide⟩ ml_N_134 im_N_reads se_N_reads d_N_dryOf_1 <| r_aload_n F d_N_dryOf_4 rfl <| r_iload_n F d_N_dryOf_5 rfl <| r_callV F h1 (co_N_ringOf (by decide +kernel) (by decide +kernel)) ⟨rfl, by decide +kernel⟩ ⟨rfl, by decide⟩ ml_N_179 im_N_ringOf se_N_ringOf d_N_dryOf_6 <| r_istore F d_N_dryOf_9 (by decide) <| r_iload F d_N_dryOf_11 <| r_callS F h2 (co_N_ones (by decide +kernel) (by decide +kernel)) ⟨rfl, by decide +kernel⟩ ml_N_182 st_N_ones d_N_dryOf_13 <| r_iconst F d_N_dryOf_16 (by decide) <| r_icmp_le F d_N_dryOf_17 (by decide) (o_N_dryOf_23 h0 h1 h2 h3 h4 F hr hlk hI) (o_N_dryOf_20 h0 h1 h2 h3 h4 F hr hlk hI)
theorem g_N_dryOf {l : Launch} {X : ra_X} {c0 c1 c2 c3 c4 : ra_Sp}  (h0 : ra_MOK l X mi_N_reads c0) (h1 : ra_MOK l X mi_N_ringOf c1) (h2 : ra_MOK l X mi_N_ones c2) (h3 : ra_MOK l X mi_N_isIn c3) (h4 : ra_MOK l X mi_N_runs c4) (sp : ra_Sp) (I : ra_R → List Value → ra_St → Nat → ra_M → ra_K) (ve : ∀ as σ Z, ra_c1 as = true → as.length = 4 → sp as σ Z → b_N_dryOf_0 c0 c1 c2 c3 c4 (ra_I (I Z as σ)) Z (ra_pad 11 as) [] σ) (v32 : ∀ as σ Z, sp as σ Z → ∀ μ L S σ1, I Z as σ 32 μ L S σ1 → b_N_dryOf_32 c0 c1 c2 c3 c4 (ra_J (I Z as σ) μ) Z L S σ1) (v58 : ∀ as σ Z, sp as σ Z → ∀ μ L S σ1, I Z as σ 58 μ L S σ1 → b_N_dryOf_58 c0 c1 c2 c3 c4 (ra_J (I Z as σ) μ) Z L S σ1) (v135 : ∀ as σ Z, sp as σ Z → ∀ μ L S σ1, I Z as σ 135 μ L S σ1 → b_N_dryOf_135 c0 c1 c2 c3 c4 (ra_J (I Z as σ) μ) Z L S σ1) : ra_MOK l X mi_N_dryOf sp := by
  refine ra_enter (k := fun Z as σ => b_N_dryOf_0 c0 c1 c2 c3 c4 (ra_I (I Z as σ)) Z) cn_N rfl (by decide +kernel) ⟨by decide +kernel, by decide +kernel⟩ (by decide +kernel) ?_ ve
  intro p e s m args below meth c Z as σ hsp F hr hlk
  refine o_N_dryOf_0 h0 h1 h2 h3 h4 F hr hlk (ra_cuts (b := fun t J => if t = 32 then b_N_dryOf_32 c0 c1 c2 c3 c4 J Z else if t = 58 then b_N_dryOf_58 c0 c1 c2 c3 c4 J Z else if t = 135 then b_N_dryOf_135 c0 c1 c2 c3 c4 J Z else fun _ _ _ => False) ?_ ?_)
  · intro t ht J hJ
    simp only [List.mem_cons, List.not_mem_nil, or_false] at ht
    rcases ht with rfl | rfl | rfl
    · exact o_N_dryOf_32 h0 h1 h2 h3 h4 F hr hlk hJ
    · exact o_N_dryOf_58 h0 h1 h2 h3 h4 F hr hlk hJ
    · exact o_N_dryOf_135 h0 h1 h2 h3 h4 F hr hlk hJ
  · intro t ht μ L S σ1 hI
    simp only [List.mem_cons, List.not_mem_nil, or_false] at ht
    rcases ht with rfl | rfl | rfl
    · exact v32 as σ Z hsp μ L S σ1 hI
    · exact v58 as σ Z hsp μ L S σ1 hI
    · exact v135 as σ Z hsp μ L S σ1 hI

theorem d_N_dry_0 : decode prog_13_method_40_code 0 = .ok (.aload_n 0, 1) := by decide +kernel
theorem d_N_dry_1 : decode prog_13_method_40_code 1 = .ok (.iload_n 1, 1) := by decide +kernel
theorem d_N_dry_2 : decode prog_13_method_40_code 2 = .ok (.invokevirtual 140, 3) := by decide +kernel
theorem d_N_dry_5 : decode prog_13_method_40_code 5 = .ok (.ifCond .eq 32, 3) := by decide +kernel
theorem d_N_dry_8 : decode prog_13_method_40_code 8 = .ok (.iload_n 2, 1) := by decide +kernel
theorem d_N_dry_9 : decode prog_13_method_40_code 9 = .ok (.iconst 0, 1) := by decide +kernel
theorem d_N_dry_10 : decode prog_13_method_40_code 10 = .ok (.bipush 99, 2) := by decide +kernel
theorem d_N_dry_12 : decode prog_13_method_40_code 12 = .ok (.invokestatic 101, 3) := by decide +kernel
theorem d_N_dry_15 : decode prog_13_method_40_code 15 = .ok (.ifCond .eq 22, 3) := by decide +kernel
theorem d_N_dry_18 : decode prog_13_method_40_code 18 = .ok (.iload_n 3, 1) := by decide +kernel
theorem d_N_dry_19 : decode prog_13_method_40_code 19 = .ok (.iconst 0, 1) := by decide +kernel
theorem d_N_dry_20 : decode prog_13_method_40_code 20 = .ok (.iconst 1, 1) := by decide +kernel
theorem d_N_dry_21 : decode prog_13_method_40_code 21 = .ok (.invokestatic 101, 3) := by decide +kernel
theorem d_N_dry_24 : decode prog_13_method_40_code 24 = .ok (.ifCond .eq 13, 3) := by decide +kernel
theorem d_N_dry_27 : decode prog_13_method_40_code 27 = .ok (.aload_n 0, 1) := by decide +kernel
theorem d_N_dry_28 : decode prog_13_method_40_code 28 = .ok (.iload_n 1, 1) := by decide +kernel
theorem d_N_dry_29 : decode prog_13_method_40_code 29 = .ok (.iload_n 2, 1) := by decide +kernel
theorem d_N_dry_30 : decode prog_13_method_40_code 30 = .ok (.iload_n 3, 1) := by decide +kernel
theorem d_N_dry_31 : decode prog_13_method_40_code 31 = .ok (.invokevirtual 185, 3) := by decide +kernel
theorem d_N_dry_34 : decode prog_13_method_40_code 34 = .ok (.goto 5, 3) := by decide +kernel
theorem d_N_dry_37 : decode prog_13_method_40_code 37 = .ok (.bipush (-2), 2) := by decide +kernel
theorem d_N_dry_39 : decode prog_13_method_40_code 39 = .ok (.ireturn, 1) := by decide +kernel
def b_N_dry_39 (c0 c1 c2 : ra_Sp) (Z : ra_R) : ra_K := w_ir Z
def b_N_dry_37 (c0 c1 c2 : ra_Sp) (Z : ra_R) : ra_K := w_c (-2) <| (b_N_dry_39 c0 c1 c2 Z)
def b_N_dry_27 (c0 c1 c2 : ra_Sp) (Z : ra_R) : ra_K := w_al 0 <| w_il 1 <| w_il 2 <| w_il 3 <| w_cv c2 4 11 <| (b_N_dry_39 c0 c1 c2 Z)
def b_N_dry_18 (c0 c1 c2 : ra_Sp) (Z : ra_R) : ra_K := w_il 3 <| w_c 0 <| w_c 1 <| w_cs c1 3 <| w_b1 (fun x => x = 0) (b_N_dry_37 c0 c1 c2 Z) (b_N_dry_27 c0 c1 c2 Z)
def b_N_dry_8 (c0 c1 c2 : ra_Sp) (Z : ra_R) : ra_K := w_il 2 <| w_c 0 <| w_c 99 <| w_cs c1 3 <| w_b1 (fun x => x = 0) (b_N_dry_37 c0 c1 c2 Z) (b_N_dry_18 c0 c1 c2 Z)
def b_N_dry_0 (c0 c1 c2 : ra_Sp) (Z : ra_R) : ra_K := w_al 0 <| w_il 1 <| w_cv c0 2 11 <| w_b1 (fun x => x = 0) (b_N_dry_37 c0 c1 c2 Z) (b_N_dry_8 c0 c1 c2 Z)
theorem o_N_dry_39 {X : ra_X} {p : Program} {l : Launch} {e : Env} {s : State} {m : MethodId} {args : Array Value} {below : List Frame} {meth : Method} {c : Code} {Z : ra_R} {c0 c1 c2 : ra_Sp}  (h0 : ra_MOK l X mi_N_isHouse c0) (h1 : ra_MOK l X mi_N_in c1) (h2 : ra_MOK l X mi_N_dryOf c2) (F : ra_Fx X p rm_N_dry s m args c prog_13_method_40_code 4 cn_N) (hr : meth.sig.returnType = (some .int)) (hlk : meth.locks = false) : ra_At X p l e rm_N_dry s m args below meth c 4 (MQ below (ra_Qc X Z) args s 0 0 (ra_A X)) (b_N_dry_39 c0 c1 c2 Z) 39 :=
  r_ireturn F hr hlk d_N_dry_39
theorem o_N_dry_37 {X : ra_X} {p : Program} {l : Launch} {e : Env} {s : State} {m : MethodId} {args : Array Value} {below : List Frame} {meth : Method} {c : Code} {Z : ra_R} {c0 c1 c2 : ra_Sp}  (h0 : ra_MOK l X mi_N_isHouse c0) (h1 : ra_MOK l X mi_N_in c1) (h2 : ra_MOK l X mi_N_dryOf c2) (F : ra_Fx X p rm_N_dry s m args c prog_13_method_40_code 4 cn_N) (hr : meth.sig.returnType = (some .int)) (hlk : meth.locks = false) : ra_At X p l e rm_N_dry s m args below meth c 4 (MQ below (ra_Qc X Z) args s 0 0 (ra_A X)) (b_N_dry_37 c0 c1 c2 Z) 37 :=
  r_bipush F d_N_dry_37 (by decide) <| (o_N_dry_39 h0 h1 h2 F hr hlk)
theorem o_N_dry_27 {X : ra_X} {p : Program} {l : Launch} {e : Env} {s : State} {m : MethodId} {args : Array Value} {below : List Frame} {meth : Method} {c : Code} {Z : ra_R} {c0 c1 c2 : ra_Sp}  (h0 : ra_MOK l X mi_N_isHouse c0) (h1 : ra_MOK l X mi_N_in c1) (h2 : ra_MOK l X mi_N_dryOf c2) (F : ra_Fx X p rm_N_dry s m args c prog_13_method_40_code 4 cn_N) (hr : meth.sig.returnType = (some .int)) (hlk : meth.locks = false) : ra_At X p l e rm_N_dry s m args below meth c 4 (MQ below (ra_Qc X Z) args s 0 0 (ra_A X)) (b_N_dry_27 c0 c1 c2 Z) 27 :=
  r_aload_n F d_N_dry_27 rfl <| r_iload_n F d_N_dry_28 rfl <| r_iload_n F d_N_dry_29 rfl <| r_iload_n F d_N_dry_30 rfl <| r_callV F h2 (co_N_dryOf (by decide +kernel) (by decide +kernel)) ⟨rfl, by decide +kernel⟩ ⟨rfl, by decide⟩ ml_N_185 im_N_dryOf se_N_dryOf d_N_dry_31 <| r_goto F d_N_dry_34 (by decide) (o_N_dry_39 h0 h1 h2 F hr hlk)
theorem o_N_dry_18 {X : ra_X} {p : Program} {l : Launch} {e : Env} {s : State} {m : MethodId} {args : Array Value} {below : List Frame} {meth : Method} {c : Code} {Z : ra_R} {c0 c1 c2 : ra_Sp}  (h0 : ra_MOK l X mi_N_isHouse c0) (h1 : ra_MOK l X mi_N_in c1) (h2 : ra_MOK l X mi_N_dryOf c2) (F : ra_Fx X p rm_N_dry s m args c prog_13_method_40_code 4 cn_N) (hr : meth.sig.returnType = (some .int)) (hlk : meth.locks = false) : ra_At X p l e rm_N_dry s m args below meth c 4 (MQ below (ra_Qc X Z) args s 0 0 (ra_A X)) (b_N_dry_18 c0 c1 c2 Z) 18 :=
  r_iload_n F d_N_dry_18 rfl <| r_iconst F d_N_dry_19 (by decide) <| r_iconst F d_N_dry_20 (by decide) <| r_callS F h1 (co_N_in (by decide +kernel) (by decide +kernel)) ⟨rfl, by decide +kernel⟩ ml_N_101 st_N_in d_N_dry_21 <| r_if_eq F d_N_dry_24 (by decide) (o_N_dry_37 h0 h1 h2 F hr hlk) (o_N_dry_27 h0 h1 h2 F hr hlk)
theorem o_N_dry_8 {X : ra_X} {p : Program} {l : Launch} {e : Env} {s : State} {m : MethodId} {args : Array Value} {below : List Frame} {meth : Method} {c : Code} {Z : ra_R} {c0 c1 c2 : ra_Sp}  (h0 : ra_MOK l X mi_N_isHouse c0) (h1 : ra_MOK l X mi_N_in c1) (h2 : ra_MOK l X mi_N_dryOf c2) (F : ra_Fx X p rm_N_dry s m args c prog_13_method_40_code 4 cn_N) (hr : meth.sig.returnType = (some .int)) (hlk : meth.locks = false) : ra_At X p l e rm_N_dry s m args below meth c 4 (MQ below (ra_Qc X Z) args s 0 0 (ra_A X)) (b_N_dry_8 c0 c1 c2 Z) 8 :=
  r_iload_n F d_N_dry_8 rfl <| r_iconst F d_N_dry_9 (by decide) <| r_bipush F d_N_dry_10 (by decide) <| r_callS F h1 (co_N_in (by decide +kernel) (by decide +kernel)) ⟨rfl, by decide +kernel⟩ ml_N_101 st_N_in d_N_dry_12 <| r_if_eq F d_N_dry_15 (by decide) (o_N_dry_37 h0 h1 h2 F hr hlk) (o_N_dry_18 h0 h1 h2 F hr hlk)
theorem o_N_dry_0 {X : ra_X} {p : Program} {l : Launch} {e : Env} {s : State} {m : MethodId} {args : Array Value} {below : List Frame} {meth : Method} {c : Code} {Z : ra_R} {c0 c1 c2 : ra_Sp}  (h0 : ra_MOK l X mi_N_isHouse c0) (h1 : ra_MOK l X mi_N_in c1) (h2 : ra_MOK l X mi_N_dryOf c2) (F : ra_Fx X p rm_N_dry s m args c prog_13_method_40_code 4 cn_N) (hr : meth.sig.returnType = (some .int)) (hlk : meth.locks = false) : ra_At X p l e rm_N_dry s m args below meth c 4 (MQ below (ra_Qc X Z) args s 0 0 (ra_A X)) (b_N_dry_0 c0 c1 c2 Z) 0 :=
  r_aload_n F d_N_dry_0 rfl <| r_iload_n F d_N_dry_1 rfl <| r_callV F h0 (co_N_isHouse (by decide +kernel) (by decide +kernel)) ⟨rfl, by decide +kernel⟩ ⟨rfl, by decide⟩ ml_N_140 im_N_isHouse se_N_isHouse d_N_dry_2 <| r_if_eq F d_N_dry_5 (by decide) (o_N_dry_37 h0 h1 h2 F hr hlk) (o_N_dry_8 h0 h1 h2 F hr hlk)
theorem g_N_dry {l : Launch} {X : ra_X} {c0 c1 c2 : ra_Sp}  (h0 : ra_MOK l X mi_N_isHouse c0) (h1 : ra_MOK l X mi_N_in c1) (h2 : ra_MOK l X mi_N_dryOf c2) (sp : ra_Sp) (ve : ∀ as σ Z, ra_c1 as = true → as.length = 4 → sp as σ Z → b_N_dry_0 c0 c1 c2 Z (ra_pad 4 as) [] σ) : ra_MOK l X mi_N_dry sp := by
  refine ra_enter (k := fun Z as σ => b_N_dry_0 c0 c1 c2 Z) cn_N rfl (by decide +kernel) ⟨by decide +kernel, by decide +kernel⟩ (by decide +kernel) ?_ ve
  intro p e s m args below meth c Z as σ hsp F hr hlk
  exact o_N_dry_0 h0 h1 h2 F hr hlk

theorem d_N_isEight_0 : decode prog_13_method_17_code 0 = .ok (.iload_n 0, 1) := by decide +kernel
theorem d_N_isEight_1 : decode prog_13_method_17_code 1 = .ok (.iconst 0, 1) := by decide +kernel
theorem d_N_isEight_2 : decode prog_13_method_17_code 2 = .ok (.bipush 7, 2) := by decide +kernel
theorem d_N_isEight_4 : decode prog_13_method_17_code 4 = .ok (.invokestatic 101, 3) := by decide +kernel
theorem d_N_isEight_7 : decode prog_13_method_17_code 7 = .ok (.ireturn, 1) := by decide +kernel
def b_N_isEight_0 (c0 : ra_Sp) (Z : ra_R) : ra_K := w_il 0 <| w_c 0 <| w_c 7 <| w_cs c0 3 <| w_zr Z
theorem o_N_isEight_0 {X : ra_X} {p : Program} {l : Launch} {e : Env} {s : State} {m : MethodId} {args : Array Value} {below : List Frame} {meth : Method} {c : Code} {Z : ra_R} {c0 : ra_Sp}  (h0 : ra_MOK l X mi_N_in c0) (F : ra_Fx X p rm_N_isEight s m args c prog_13_method_17_code 1 cn_N) (hr : meth.sig.returnType = (some .boolean)) (hlk : meth.locks = false) : ra_At X p l e rm_N_isEight s m args below meth c 1 (MQ below (ra_Qc X Z) args s 0 0 (ra_A X)) (b_N_isEight_0 c0 Z) 0 :=
  r_iload_n F d_N_isEight_0 rfl <| r_iconst F d_N_isEight_1 (by decide) <| r_bipush F d_N_isEight_2 (by decide) <| r_callS F h0 (co_N_in (by decide +kernel) (by decide +kernel)) ⟨rfl, by decide +kernel⟩ ml_N_101 st_N_in d_N_isEight_4 <| r_zreturn F hr hlk d_N_isEight_7
theorem g_N_isEight {l : Launch} {X : ra_X} {c0 : ra_Sp}  (h0 : ra_MOK l X mi_N_in c0) (sp : ra_Sp) (ve : ∀ as σ Z, ra_c1 as = true → as.length = 1 → sp as σ Z → b_N_isEight_0 c0 Z (ra_pad 1 as) [] σ) : ra_MOK l X mi_N_isEight sp := by
  refine ra_enter (k := fun Z as σ => b_N_isEight_0 c0 Z) cn_N rfl (by decide +kernel) ⟨by decide +kernel, by decide +kernel⟩ (by decide +kernel) ?_ ve
  intro p e s m args below meth c Z as σ hsp F hr hlk
  exact o_N_isEight_0 h0 F hr hlk

theorem d_N_wish_0 : decode prog_13_method_41_code 0 = .ok (.iload_n 1, 1) := by decide +kernel
theorem d_N_wish_1 : decode prog_13_method_41_code 1 = .ok (.invokestatic 188, 3) := by decide +kernel
theorem d_N_wish_4 : decode prog_13_method_41_code 4 = .ok (.ifCond .eq 20, 3) := by decide +kernel
theorem d_N_wish_7 : decode prog_13_method_41_code 7 = .ok (.iload_n 2, 1) := by decide +kernel
theorem d_N_wish_8 : decode prog_13_method_41_code 8 = .ok (.invokestatic 188, 3) := by decide +kernel
theorem d_N_wish_11 : decode prog_13_method_41_code 11 = .ok (.ifCond .eq 13, 3) := by decide +kernel
theorem d_N_wish_14 : decode prog_13_method_41_code 14 = .ok (.iload_n 3, 1) := by decide +kernel
theorem d_N_wish_15 : decode prog_13_method_41_code 15 = .ok (.iconst 0, 1) := by decide +kernel
theorem d_N_wish_16 : decode prog_13_method_41_code 16 = .ok (.bipush 9, 2) := by decide +kernel
theorem d_N_wish_18 : decode prog_13_method_41_code 18 = .ok (.invokestatic 101, 3) := by decide +kernel
theorem d_N_wish_21 : decode prog_13_method_41_code 21 = .ok (.ifCond .ne 6, 3) := by decide +kernel
theorem d_N_wish_24 : decode prog_13_method_41_code 24 = .ok (.bipush (-2), 2) := by decide +kernel
theorem d_N_wish_26 : decode prog_13_method_41_code 26 = .ok (.ireturn, 1) := by decide +kernel
theorem d_N_wish_27 : decode prog_13_method_41_code 27 = .ok (.aload_n 0, 1) := by decide +kernel
theorem d_N_wish_28 : decode prog_13_method_41_code 28 = .ok (.getfield 61, 3) := by decide +kernel
theorem d_N_wish_31 : decode prog_13_method_41_code 31 = .ok (.bipush 8, 2) := by decide +kernel
theorem d_N_wish_33 : decode prog_13_method_41_code 33 = .ok (.iload_n 1, 1) := by decide +kernel
theorem d_N_wish_34 : decode prog_13_method_41_code 34 = .ok (.imul, 1) := by decide +kernel
theorem d_N_wish_35 : decode prog_13_method_41_code 35 = .ok (.iload_n 2, 1) := by decide +kernel
theorem d_N_wish_36 : decode prog_13_method_41_code 36 = .ok (.iadd, 1) := by decide +kernel
theorem d_N_wish_37 : decode prog_13_method_41_code 37 = .ok (.iaload, 1) := by decide +kernel
theorem d_N_wish_38 : decode prog_13_method_41_code 38 = .ok (.istore 4, 2) := by decide +kernel
theorem d_N_wish_40 : decode prog_13_method_41_code 40 = .ok (.aload_n 0, 1) := by decide +kernel
theorem d_N_wish_41 : decode prog_13_method_41_code 41 = .ok (.getfield 61, 3) := by decide +kernel
theorem d_N_wish_44 : decode prog_13_method_41_code 44 = .ok (.bipush 8, 2) := by decide +kernel
theorem d_N_wish_46 : decode prog_13_method_41_code 46 = .ok (.iload_n 1, 1) := by decide +kernel
theorem d_N_wish_47 : decode prog_13_method_41_code 47 = .ok (.imul, 1) := by decide +kernel
theorem d_N_wish_48 : decode prog_13_method_41_code 48 = .ok (.iload_n 2, 1) := by decide +kernel
theorem d_N_wish_49 : decode prog_13_method_41_code 49 = .ok (.iadd, 1) := by decide +kernel
theorem d_N_wish_50 : decode prog_13_method_41_code 50 = .ok (.iload_n 3, 1) := by decide +kernel
theorem d_N_wish_51 : decode prog_13_method_41_code 51 = .ok (.iastore, 1) := by decide +kernel
theorem d_N_wish_52 : decode prog_13_method_41_code 52 = .ok (.iload 4, 2) := by decide +kernel
theorem d_N_wish_54 : decode prog_13_method_41_code 54 = .ok (.ireturn, 1) := by decide +kernel
def b_N_wish_27 (c0 c1 : ra_Sp) (Z : ra_R) : ra_K := w_al 0 <| w_gr 11 19 <| w_c 8 <| w_il 1 <| w_i2 (fun x y => x * y) <| w_il 2 <| w_i2 (fun x y => x + y) <| w_ald <| w_is 4 <| w_al 0 <| w_gr 11 19 <| w_c 8 <| w_il 1 <| w_i2 (fun x y => x * y) <| w_il 2 <| w_i2 (fun x y => x + y) <| w_il 3 <| w_ast <| w_il 4 <| w_ir Z
def b_N_wish_24 (c0 c1 : ra_Sp) (Z : ra_R) : ra_K := w_c (-2) <| w_ir Z
def b_N_wish_14 (c0 c1 : ra_Sp) (Z : ra_R) : ra_K := w_il 3 <| w_c 0 <| w_c 9 <| w_cs c1 3 <| w_b1 (fun x => x = 0) (b_N_wish_24 c0 c1 Z) (b_N_wish_27 c0 c1 Z)
def b_N_wish_7 (c0 c1 : ra_Sp) (Z : ra_R) : ra_K := w_il 2 <| w_cs c0 1 <| w_b1 (fun x => x = 0) (b_N_wish_24 c0 c1 Z) (b_N_wish_14 c0 c1 Z)
def b_N_wish_0 (c0 c1 : ra_Sp) (Z : ra_R) : ra_K := w_il 1 <| w_cs c0 1 <| w_b1 (fun x => x = 0) (b_N_wish_24 c0 c1 Z) (b_N_wish_7 c0 c1 Z)
theorem o_N_wish_27 {X : ra_X} {p : Program} {l : Launch} {e : Env} {s : State} {m : MethodId} {args : Array Value} {below : List Frame} {meth : Method} {c : Code} {Z : ra_R} {c0 c1 : ra_Sp}  (h0 : ra_MOK l X mi_N_isEight c0) (h1 : ra_MOK l X mi_N_in c1) (F : ra_Fx X p rm_N_wish s m args c prog_13_method_41_code 5 cn_N) (hr : meth.sig.returnType = (some .int)) (hlk : meth.locks = false) : ra_At X p l e rm_N_wish s m args below meth c 5 (MQ below (ra_Qc X Z) args s 0 0 (ra_A X)) (b_N_wish_27 c0 c1 Z) 27 :=
  r_aload_n F d_N_wish_27 rfl <| r_getR F cg_N (j := 19) (by decide) rfl fl_N_61 d_N_wish_28 <| r_bipush F d_N_wish_31 (by decide) <| r_iload_n F d_N_wish_33 rfl <| r_imul F d_N_wish_34 <| r_iload_n F d_N_wish_35 rfl <| r_iadd F d_N_wish_36 <| r_iaload F d_N_wish_37 <| r_istore F d_N_wish_38 (by decide) <| r_aload_n F d_N_wish_40 rfl <| r_getR F cg_N (j := 19) (by decide) rfl fl_N_61 d_N_wish_41 <| r_bipush F d_N_wish_44 (by decide) <| r_iload_n F d_N_wish_46 rfl <| r_imul F d_N_wish_47 <| r_iload_n F d_N_wish_48 rfl <| r_iadd F d_N_wish_49 <| r_iload_n F d_N_wish_50 rfl <| r_iastore F d_N_wish_51 <| r_iload F d_N_wish_52 <| r_ireturn F hr hlk d_N_wish_54
theorem o_N_wish_24 {X : ra_X} {p : Program} {l : Launch} {e : Env} {s : State} {m : MethodId} {args : Array Value} {below : List Frame} {meth : Method} {c : Code} {Z : ra_R} {c0 c1 : ra_Sp}  (h0 : ra_MOK l X mi_N_isEight c0) (h1 : ra_MOK l X mi_N_in c1) (F : ra_Fx X p rm_N_wish s m args c prog_13_method_41_code 5 cn_N) (hr : meth.sig.returnType = (some .int)) (hlk : meth.locks = false) : ra_At X p l e rm_N_wish s m args below meth c 5 (MQ below (ra_Qc X Z) args s 0 0 (ra_A X)) (b_N_wish_24 c0 c1 Z) 24 :=
  r_bipush F d_N_wish_24 (by decide) <| r_ireturn F hr hlk d_N_wish_26
theorem o_N_wish_14 {X : ra_X} {p : Program} {l : Launch} {e : Env} {s : State} {m : MethodId} {args : Array Value} {below : List Frame} {meth : Method} {c : Code} {Z : ra_R} {c0 c1 : ra_Sp}  (h0 : ra_MOK l X mi_N_isEight c0) (h1 : ra_MOK l X mi_N_in c1) (F : ra_Fx X p rm_N_wish s m args c prog_13_method_41_code 5 cn_N) (hr : meth.sig.returnType = (some .int)) (hlk : meth.locks = false) : ra_At X p l e rm_N_wish s m args below meth c 5 (MQ below (ra_Qc X Z) args s 0 0 (ra_A X)) (b_N_wish_14 c0 c1 Z) 14 :=
  r_iload_n F d_N_wish_14 rfl <| r_iconst F d_N_wish_15 (by decide) <| r_bipush F d_N_wish_16 (by decide) <| r_callS F h1 (co_N_in (by decide +kernel) (by decide +kernel)) ⟨rfl, by decide +kernel⟩ ml_N_101 st_N_in d_N_wish_18 <| r_if_ne F d_N_wish_21 (by decide) (o_N_wish_27 h0 h1 F hr hlk) (o_N_wish_24 h0 h1 F hr hlk)
theorem o_N_wish_7 {X : ra_X} {p : Program} {l : Launch} {e : Env} {s : State} {m : MethodId} {args : Array Value} {below : List Frame} {meth : Method} {c : Code} {Z : ra_R} {c0 c1 : ra_Sp}  (h0 : ra_MOK l X mi_N_isEight c0) (h1 : ra_MOK l X mi_N_in c1) (F : ra_Fx X p rm_N_wish s m args c prog_13_method_41_code 5 cn_N) (hr : meth.sig.returnType = (some .int)) (hlk : meth.locks = false) : ra_At X p l e rm_N_wish s m args below meth c 5 (MQ below (ra_Qc X Z) args s 0 0 (ra_A X)) (b_N_wish_7 c0 c1 Z) 7 :=
  r_iload_n F d_N_wish_7 rfl <| r_callS F h0 (co_N_isEight (by decide +kernel) (by decide +kernel)) ⟨rfl, by decide +kernel⟩ ml_N_188 st_N_isEight d_N_wish_8 <| r_if_eq F d_N_wish_11 (by decide) (o_N_wish_24 h0 h1 F hr hlk) (o_N_wish_14 h0 h1 F hr hlk)
theorem o_N_wish_0 {X : ra_X} {p : Program} {l : Launch} {e : Env} {s : State} {m : MethodId} {args : Array Value} {below : List Frame} {meth : Method} {c : Code} {Z : ra_R} {c0 c1 : ra_Sp}  (h0 : ra_MOK l X mi_N_isEight c0) (h1 : ra_MOK l X mi_N_in c1) (F : ra_Fx X p rm_N_wish s m args c prog_13_method_41_code 5 cn_N) (hr : meth.sig.returnType = (some .int)) (hlk : meth.locks = false) : ra_At X p l e rm_N_wish s m args below meth c 5 (MQ below (ra_Qc X Z) args s 0 0 (ra_A X)) (b_N_wish_0 c0 c1 Z) 0 :=
  r_iload_n F d_N_wish_0 rfl <| r_callS F h0 (co_N_isEight (by decide +kernel) (by decide +kernel)) ⟨rfl, by decide +kernel⟩ ml_N_188 st_N_isEight d_N_wish_1 <| r_if_eq F d_N_wish_4 (by decide) (o_N_wish_24 h0 h1 F hr hlk) (o_N_wish_7 h0 h1 F hr hlk)
theorem g_N_wish {l : Launch} {X : ra_X} {c0 c1 : ra_Sp}  (h0 : ra_MOK l X mi_N_isEight c0) (h1 : ra_MOK l X mi_N_in c1) (sp : ra_Sp) (ve : ∀ as σ Z, ra_c1 as = true → as.length = 4 → sp as σ Z → b_N_wish_0 c0 c1 Z (ra_pad 5 as) [] σ) : ra_MOK l X mi_N_wish sp := by
  refine ra_enter (k := fun Z as σ => b_N_wish_0 c0 c1 Z) cn_N rfl (by decide +kernel) ⟨by decide +kernel, by decide +kernel⟩ (by decide +kernel) ?_ ve
  intro p e s m args below meth c Z as σ hsp F hr hlk
  exact o_N_wish_0 h0 h1 F hr hlk

theorem d_N_hasAsTold_0 : decode prog_13_method_43_code 0 = .ok (.aload_n 0, 1) := by decide +kernel
theorem d_N_hasAsTold_1 : decode prog_13_method_43_code 1 = .ok (.invokevirtual 134, 3) := by decide +kernel
theorem d_N_hasAsTold_4 : decode prog_13_method_43_code 4 = .ok (.iconst 0, 1) := by decide +kernel
theorem d_N_hasAsTold_5 : decode prog_13_method_43_code 5 = .ok (.istore_n 1, 1) := by decide +kernel
theorem d_N_hasAsTold_6 : decode prog_13_method_43_code 6 = .ok (.iload_n 1, 1) := by decide +kernel
theorem d_N_hasAsTold_7 : decode prog_13_method_43_code 7 = .ok (.aload_n 0, 1) := by decide +kernel
theorem d_N_hasAsTold_8 : decode prog_13_method_43_code 8 = .ok (.getfield 109, 3) := by decide +kernel
theorem d_N_hasAsTold_11 : decode prog_13_method_43_code 11 = .ok (.if_icmp .ge 21, 3) := by decide +kernel
theorem d_N_hasAsTold_14 : decode prog_13_method_43_code 14 = .ok (.aload_n 0, 1) := by decide +kernel
theorem d_N_hasAsTold_15 : decode prog_13_method_43_code 15 = .ok (.getfield 64, 3) := by decide +kernel
theorem d_N_hasAsTold_18 : decode prog_13_method_43_code 18 = .ok (.iload_n 1, 1) := by decide +kernel
theorem d_N_hasAsTold_19 : decode prog_13_method_43_code 19 = .ok (.aload_n 0, 1) := by decide +kernel
theorem d_N_hasAsTold_20 : decode prog_13_method_43_code 20 = .ok (.getfield 25, 3) := by decide +kernel
theorem d_N_hasAsTold_23 : decode prog_13_method_43_code 23 = .ok (.iload_n 1, 1) := by decide +kernel
theorem d_N_hasAsTold_24 : decode prog_13_method_43_code 24 = .ok (.iaload, 1) := by decide +kernel
theorem d_N_hasAsTold_25 : decode prog_13_method_43_code 25 = .ok (.iastore, 1) := by decide +kernel
theorem d_N_hasAsTold_26 : decode prog_13_method_43_code 26 = .ok (.iinc 1 1, 3) := by decide +kernel
theorem d_N_hasAsTold_29 : decode prog_13_method_43_code 29 = .ok (.goto (-23), 3) := by decide +kernel
theorem d_N_hasAsTold_32 : decode prog_13_method_43_code 32 = .ok (.return_, 1) := by decide +kernel
def b_N_hasAsTold_32 (c0 : ra_Sp) (I : Nat → ra_K) (Z : ra_R) : ra_K := w_vr Z
def b_N_hasAsTold_14 (c0 : ra_Sp) (I : Nat → ra_K) (Z : ra_R) : ra_K := w_al 0 <| w_gr 11 20 <| w_il 1 <| w_al 0 <| w_gr 11 6 <| w_il 1 <| w_ald <| w_ast <| w_inc 1 1 <| (I 6)
def b_N_hasAsTold_6 (c0 : ra_Sp) (I : Nat → ra_K) (Z : ra_R) : ra_K := w_il 1 <| w_al 0 <| w_gi 11 2 <| w_b2 (fun x y => y ≤ x) (b_N_hasAsTold_32 c0 I Z) (b_N_hasAsTold_14 c0 I Z)
def b_N_hasAsTold_0 (c0 : ra_Sp) (I : Nat → ra_K) (Z : ra_R) : ra_K := w_al 0 <| w_cv c0 1 11 <| w_c 0 <| w_is 1 <| (I 6)
theorem o_N_hasAsTold_32 {X : ra_X} {p : Program} {l : Launch} {e : Env} {s : State} {m : MethodId} {args : Array Value} {below : List Frame} {meth : Method} {c : Code} {Z : ra_R} {c0 : ra_Sp}  (h0 : ra_MOK l X mi_N_reads c0) (F : ra_Fx X p rm_N_hasAsTold s m args c prog_13_method_43_code 2 cn_N) (hr : meth.sig.returnType = none) (hlk : meth.locks = false) {I : Nat → ra_K} (hI : ∀ t ∈ [6], ra_At X p l e rm_N_hasAsTold s m args below meth c 2 (MQ below (ra_Qc X Z) args s 0 0 (ra_A X)) (I t) t) : ra_At X p l e rm_N_hasAsTold s m args below meth c 2 (MQ below (ra_Qc X Z) args s 0 0 (ra_A X)) (b_N_hasAsTold_32 c0 I Z) 32 :=
  r_return F hr hlk d_N_hasAsTold_32
theorem o_N_hasAsTold_14 {X : ra_X} {p : Program} {l : Launch} {e : Env} {s : State} {m : MethodId} {args : Array Value} {below : List Frame} {meth : Method} {c : Code} {Z : ra_R} {c0 : ra_Sp}  (h0 : ra_MOK l X mi_N_reads c0) (F : ra_Fx X p rm_N_hasAsTold s m args c prog_13_method_43_code 2 cn_N) (hr : meth.sig.returnType = none) (hlk : meth.locks = false) {I : Nat → ra_K} (hI : ∀ t ∈ [6], ra_At X p l e rm_N_hasAsTold s m args below meth c 2 (MQ below (ra_Qc X Z) args s 0 0 (ra_A X)) (I t) t) : ra_At X p l e rm_N_hasAsTold s m args below meth c 2 (MQ below (ra_Qc X Z) args s 0 0 (ra_A X)) (b_N_hasAsTold_14 c0 I Z) 14 :=
  r_aload_n F d_N_hasAsTold_14 rfl <| r_getR F cg_N (j := 20) (by decide) rfl fl_N_64 d_N_hasAsTold_15 <| r_iload_n F d_N_hasAsTold_18 rfl <| r_aload_n F d_N_hasAsTold_19 rfl <| r_getR F cg_N (j := 6) (by decide) rfl fl_N_25 d_N_hasAsTold_20 <| r_iload_n F d_N_hasAsTold_23 rfl <| r_iaload F d_N_hasAsTold_24 <| r_iastore F d_N_hasAsTold_25 <| r_iinc F d_N_hasAsTold_26 (by decide) (by decide) <| r_goto F d_N_hasAsTold_29 (by decide) (hI 6 (by decide))
theorem o_N_hasAsTold_6 {X : ra_X} {p : Program} {l : Launch} {e : Env} {s : State} {m : MethodId} {args : Array Value} {below : List Frame} {meth : Method} {c : Code} {Z : ra_R} {c0 : ra_Sp}  (h0 : ra_MOK l X mi_N_reads c0) (F : ra_Fx X p rm_N_hasAsTold s m args c prog_13_method_43_code 2 cn_N) (hr : meth.sig.returnType = none) (hlk : meth.locks = false) {I : Nat → ra_K} (hI : ∀ t ∈ [6], ra_At X p l e rm_N_hasAsTold s m args below meth c 2 (MQ below (ra_Qc X Z) args s 0 0 (ra_A X)) (I t) t) : ra_At X p l e rm_N_hasAsTold s m args below meth c 2 (MQ below (ra_Qc X Z) args s 0 0 (ra_A X)) (b_N_hasAsTold_6 c0 I Z) 6 :=
  r_iload_n F d_N_hasAsTold_6 rfl <| r_aload_n F d_N_hasAsTold_7 rfl <| r_getI F cg_N (j := 2) (by decide) rfl fl_N_109 d_N_hasAsTold_8 <| r_icmp_ge F d_N_hasAsTold_11 (by decide) (o_N_hasAsTold_32 h0 F hr hlk hI) (o_N_hasAsTold_14 h0 F hr hlk hI)
theorem o_N_hasAsTold_0 {X : ra_X} {p : Program} {l : Launch} {e : Env} {s : State} {m : MethodId} {args : Array Value} {below : List Frame} {meth : Method} {c : Code} {Z : ra_R} {c0 : ra_Sp}  (h0 : ra_MOK l X mi_N_reads c0) (F : ra_Fx X p rm_N_hasAsTold s m args c prog_13_method_43_code 2 cn_N) (hr : meth.sig.returnType = none) (hlk : meth.locks = false) {I : Nat → ra_K} (hI : ∀ t ∈ [6], ra_At X p l e rm_N_hasAsTold s m args below meth c 2 (MQ below (ra_Qc X Z) args s 0 0 (ra_A X)) (I t) t) : ra_At X p l e rm_N_hasAsTold s m args below meth c 2 (MQ below (ra_Qc X Z) args s 0 0 (ra_A X)) (b_N_hasAsTold_0 c0 I Z) 0 :=
  r_aload_n F d_N_hasAsTold_0 rfl <| r_callV F h0 (co_N_reads (by decide +kernel) (by decide +kernel)) ⟨rfl, by decide +kernel⟩ ⟨rfl, by decide⟩ ml_N_134 im_N_reads se_N_reads d_N_hasAsTold_1 <| r_iconst F d_N_hasAsTold_4 (by decide) <| r_istore_n F d_N_hasAsTold_5 rfl (by decide) <| (hI 6 (by decide))
theorem g_N_hasAsTold {l : Launch} {X : ra_X} {c0 : ra_Sp}  (h0 : ra_MOK l X mi_N_reads c0) (sp : ra_Sp) (I : ra_R → List Value → ra_St → Nat → ra_M → ra_K) (ve : ∀ as σ Z, ra_c1 as = true → as.length = 1 → sp as σ Z → b_N_hasAsTold_0 c0 (ra_I (I Z as σ)) Z (ra_pad 2 as) [] σ) (v6 : ∀ as σ Z, sp as σ Z → ∀ μ L S σ1, I Z as σ 6 μ L S σ1 → b_N_hasAsTold_6 c0 (ra_J (I Z as σ) μ) Z L S σ1) : ra_MOK l X mi_N_hasAsTold sp := by
  refine ra_enter (k := fun Z as σ => b_N_hasAsTold_0 c0 (ra_I (I Z as σ)) Z) cn_N rfl (by decide +kernel) ⟨by decide +kernel, by decide +kernel⟩ (by decide +kernel) ?_ ve
  intro p e s m args below meth c Z as σ hsp F hr hlk
  refine o_N_hasAsTold_0 h0 F hr hlk (ra_cuts (b := fun t J => if t = 6 then b_N_hasAsTold_6 c0 J Z else fun _ _ _ => False) ?_ ?_)
  · intro t ht J hJ
    simp only [List.mem_cons, List.not_mem_nil, or_false] at ht
    rcases ht with rfl
    · exact o_N_hasAsTold_6 h0 F hr hlk hJ
  · intro t ht μ L S σ1 hI
    simp only [List.mem_cons, List.not_mem_nil, or_false] at ht
    rcases ht with rfl
    · exact v6 as σ Z hsp μ L S σ1 hI

theorem d_N_doWant_0 : decode prog_13_method_42_code 0 = .ok (.aload_n 0, 1) := by decide +kernel
theorem d_N_doWant_1 : decode prog_13_method_42_code 1 = .ok (.getfield 61, 3) := by decide +kernel
theorem d_N_doWant_4 : decode prog_13_method_42_code 4 = .ok (.bipush 8, 2) := by decide +kernel
theorem d_N_doWant_6 : decode prog_13_method_42_code 6 = .ok (.iload_n 1, 1) := by decide +kernel
theorem d_N_doWant_7 : decode prog_13_method_42_code 7 = .ok (.imul, 1) := by decide +kernel
theorem d_N_doWant_8 : decode prog_13_method_42_code 8 = .ok (.aload_n 0, 1) := by decide +kernel
theorem d_N_doWant_9 : decode prog_13_method_42_code 9 = .ok (.getfield 64, 3) := by decide +kernel
theorem d_N_doWant_12 : decode prog_13_method_42_code 12 = .ok (.iload_n 2, 1) := by decide +kernel
theorem d_N_doWant_13 : decode prog_13_method_42_code 13 = .ok (.iaload, 1) := by decide +kernel
theorem d_N_doWant_14 : decode prog_13_method_42_code 14 = .ok (.iadd, 1) := by decide +kernel
theorem d_N_doWant_15 : decode prog_13_method_42_code 15 = .ok (.iaload, 1) := by decide +kernel
theorem d_N_doWant_16 : decode prog_13_method_42_code 16 = .ok (.aload_n 0, 1) := by decide +kernel
theorem d_N_doWant_17 : decode prog_13_method_42_code 17 = .ok (.getfield 61, 3) := by decide +kernel
theorem d_N_doWant_20 : decode prog_13_method_42_code 20 = .ok (.bipush 8, 2) := by decide +kernel
theorem d_N_doWant_22 : decode prog_13_method_42_code 22 = .ok (.iload_n 1, 1) := by decide +kernel
theorem d_N_doWant_23 : decode prog_13_method_42_code 23 = .ok (.imul, 1) := by decide +kernel
theorem d_N_doWant_24 : decode prog_13_method_42_code 24 = .ok (.aload_n 0, 1) := by decide +kernel
theorem d_N_doWant_25 : decode prog_13_method_42_code 25 = .ok (.getfield 64, 3) := by decide +kernel
theorem d_N_doWant_28 : decode prog_13_method_42_code 28 = .ok (.iload_n 1, 1) := by decide +kernel
theorem d_N_doWant_29 : decode prog_13_method_42_code 29 = .ok (.iaload, 1) := by decide +kernel
theorem d_N_doWant_30 : decode prog_13_method_42_code 30 = .ok (.iadd, 1) := by decide +kernel
theorem d_N_doWant_31 : decode prog_13_method_42_code 31 = .ok (.iaload, 1) := by decide +kernel
theorem d_N_doWant_32 : decode prog_13_method_42_code 32 = .ok (.if_icmp .le 42, 3) := by decide +kernel
theorem d_N_doWant_35 : decode prog_13_method_42_code 35 = .ok (.aload_n 0, 1) := by decide +kernel
theorem d_N_doWant_36 : decode prog_13_method_42_code 36 = .ok (.getfield 61, 3) := by decide +kernel
theorem d_N_doWant_39 : decode prog_13_method_42_code 39 = .ok (.bipush 8, 2) := by decide +kernel
theorem d_N_doWant_41 : decode prog_13_method_42_code 41 = .ok (.iload_n 2, 1) := by decide +kernel
theorem d_N_doWant_42 : decode prog_13_method_42_code 42 = .ok (.imul, 1) := by decide +kernel
theorem d_N_doWant_43 : decode prog_13_method_42_code 43 = .ok (.aload_n 0, 1) := by decide +kernel
theorem d_N_doWant_44 : decode prog_13_method_42_code 44 = .ok (.getfield 64, 3) := by decide +kernel
theorem d_N_doWant_47 : decode prog_13_method_42_code 47 = .ok (.iload_n 1, 1) := by decide +kernel
theorem d_N_doWant_48 : decode prog_13_method_42_code 48 = .ok (.iaload, 1) := by decide +kernel
theorem d_N_doWant_49 : decode prog_13_method_42_code 49 = .ok (.iadd, 1) := by decide +kernel
theorem d_N_doWant_50 : decode prog_13_method_42_code 50 = .ok (.iaload, 1) := by decide +kernel
theorem d_N_doWant_51 : decode prog_13_method_42_code 51 = .ok (.aload_n 0, 1) := by decide +kernel
theorem d_N_doWant_52 : decode prog_13_method_42_code 52 = .ok (.getfield 61, 3) := by decide +kernel
theorem d_N_doWant_55 : decode prog_13_method_42_code 55 = .ok (.bipush 8, 2) := by decide +kernel
theorem d_N_doWant_57 : decode prog_13_method_42_code 57 = .ok (.iload_n 2, 1) := by decide +kernel
theorem d_N_doWant_58 : decode prog_13_method_42_code 58 = .ok (.imul, 1) := by decide +kernel
theorem d_N_doWant_59 : decode prog_13_method_42_code 59 = .ok (.aload_n 0, 1) := by decide +kernel
theorem d_N_doWant_60 : decode prog_13_method_42_code 60 = .ok (.getfield 64, 3) := by decide +kernel
theorem d_N_doWant_63 : decode prog_13_method_42_code 63 = .ok (.iload_n 2, 1) := by decide +kernel
theorem d_N_doWant_64 : decode prog_13_method_42_code 64 = .ok (.iaload, 1) := by decide +kernel
theorem d_N_doWant_65 : decode prog_13_method_42_code 65 = .ok (.iadd, 1) := by decide +kernel
theorem d_N_doWant_66 : decode prog_13_method_42_code 66 = .ok (.iaload, 1) := by decide +kernel
theorem d_N_doWant_67 : decode prog_13_method_42_code 67 = .ok (.if_icmp .le 7, 3) := by decide +kernel
theorem d_N_doWant_70 : decode prog_13_method_42_code 70 = .ok (.iconst 1, 1) := by decide +kernel
theorem d_N_doWant_71 : decode prog_13_method_42_code 71 = .ok (.goto 4, 3) := by decide +kernel
theorem d_N_doWant_74 : decode prog_13_method_42_code 74 = .ok (.iconst 0, 1) := by decide +kernel
theorem d_N_doWant_75 : decode prog_13_method_42_code 75 = .ok (.ireturn, 1) := by decide +kernel
def b_N_doWant_75 (Z : ra_R) : ra_K := w_zr Z
def b_N_doWant_74 (Z : ra_R) : ra_K := w_c 0 <| (b_N_doWant_75 Z)
def b_N_doWant_70 (Z : ra_R) : ra_K := w_c 1 <| (b_N_doWant_75 Z)
def b_N_doWant_35 (Z : ra_R) : ra_K := w_al 0 <| w_gr 11 19 <| w_c 8 <| w_il 2 <| w_i2 (fun x y => x * y) <| w_al 0 <| w_gr 11 20 <| w_il 1 <| w_ald <| w_i2 (fun x y => x + y) <| w_ald <| w_al 0 <| w_gr 11 19 <| w_c 8 <| w_il 2 <| w_i2 (fun x y => x * y) <| w_al 0 <| w_gr 11 20 <| w_il 2 <| w_ald <| w_i2 (fun x y => x + y) <| w_ald <| w_b2 (fun x y => x ≤ y) (b_N_doWant_74 Z) (b_N_doWant_70 Z)
def b_N_doWant_0 (Z : ra_R) : ra_K := w_al 0 <| w_gr 11 19 <| w_c 8 <| w_il 1 <| w_i2 (fun x y => x * y) <| w_al 0 <| w_gr 11 20 <| w_il 2 <| w_ald <| w_i2 (fun x y => x + y) <| w_ald <| w_al 0 <| w_gr 11 19 <| w_c 8 <| w_il 1 <| w_i2 (fun x y => x * y) <| w_al 0 <| w_gr 11 20 <| w_il 1 <| w_ald <| w_i2 (fun x y => x + y) <| w_ald <| w_b2 (fun x y => x ≤ y) (b_N_doWant_74 Z) (b_N_doWant_35 Z)
theorem o_N_doWant_75 {X : ra_X} {p : Program} {l : Launch} {e : Env} {s : State} {m : MethodId} {args : Array Value} {below : List Frame} {meth : Method} {c : Code} {Z : ra_R}  (F : ra_Fx X p rm_N_doWant s m args c prog_13_method_42_code 3 cn_N) (hr : meth.sig.returnType = (some .boolean)) (hlk : meth.locks = false) : ra_At X p l e rm_N_doWant s m args below meth c 3 (MQ below (ra_Qc X Z) args s 0 0 (ra_A X)) (b_N_doWant_75 Z) 75 :=
  r_zreturn F hr hlk d_N_doWant_75
theorem o_N_doWant_74 {X : ra_X} {p : Program} {l : Launch} {e : Env} {s : State} {m : MethodId} {args : Array Value} {below : List Frame} {meth : Method} {c : Code} {Z : ra_R}  (F : ra_Fx X p rm_N_doWant s m args c prog_13_method_42_code 3 cn_N) (hr : meth.sig.returnType = (some .boolean)) (hlk : meth.locks = false) : ra_At X p l e rm_N_doWant s m args below meth c 3 (MQ below (ra_Qc X Z) args s 0 0 (ra_A X)) (b_N_doWant_74 Z) 74 :=
  r_iconst F d_N_doWant_74 (by decide) <| (o_N_doWant_75 F hr hlk)
theorem o_N_doWant_70 {X : ra_X} {p : Program} {l : Launch} {e : Env} {s : State} {m : MethodId} {args : Array Value} {below : List Frame} {meth : Method} {c : Code} {Z : ra_R}  (F : ra_Fx X p rm_N_doWant s m args c prog_13_method_42_code 3 cn_N) (hr : meth.sig.returnType = (some .boolean)) (hlk : meth.locks = false) : ra_At X p l e rm_N_doWant s m args below meth c 3 (MQ below (ra_Qc X Z) args s 0 0 (ra_A X)) (b_N_doWant_70 Z) 70 :=
  r_iconst F d_N_doWant_70 (by decide) <| r_goto F d_N_doWant_71 (by decide) (o_N_doWant_75 F hr hlk)
theorem o_N_doWant_35 {X : ra_X} {p : Program} {l : Launch} {e : Env} {s : State} {m : MethodId} {args : Array Value} {below : List Frame} {meth : Method} {c : Code} {Z : ra_R}  (F : ra_Fx X p rm_N_doWant s m args c prog_13_method_42_code 3 cn_N) (hr : meth.sig.returnType = (some .boolean)) (hlk : meth.locks = false) : ra_At X p l e rm_N_doWant s m args below meth c 3 (MQ below (ra_Qc X Z) args s 0 0 (ra_A X)) (b_N_doWant_35 Z) 35 :=
  r_aload_n F d_N_doWant_35 rfl <| r_getR F cg_N (j := 19) (by decide) rfl fl_N_61 d_N_doWant_36 <| r_bipush F d_N_doWant_39 (by decide) <| r_iload_n F d_N_doWant_41 rfl <| r_imul F d_N_doWant_42 <| r_aload_n F d_N_doWant_43 rfl <| r_getR F cg_N (j := 20) (by decide) rfl fl_N_64 d_N_doWant_44 <| r_iload_n F d_N_doWant_47 rfl <| r_iaload F d_N_doWant_48 <| r_iadd F d_N_doWant_49 <| r_iaload F d_N_doWant_50 <| r_aload_n F d_N_doWant_51 rfl <| r_getR F cg_N (j := 19) (by decide) rfl fl_N_61 d_N_doWant_52 <| r_bipush F d_N_doWant_55 (by decide) <| r_iload_n F d_N_doWant_57 rfl <| r_imul F d_N_doWant_58 <| r_aload_n F d_N_doWant_59 rfl <| r_getR F cg_N (j := 20) (by decide) rfl fl_N_64 d_N_doWant_60 <| r_iload_n F d_N_doWant_63 rfl <| r_iaload F d_N_doWant_64 <| r_iadd F d_N_doWant_65 <| r_iaload F d_N_doWant_66 <| r_icmp_le F d_N_doWant_67 (by decide) (o_N_doWant_74 F hr hlk) (o_N_doWant_70 F hr hlk)
theorem o_N_doWant_0 {X : ra_X} {p : Program} {l : Launch} {e : Env} {s : State} {m : MethodId} {args : Array Value} {below : List Frame} {meth : Method} {c : Code} {Z : ra_R}  (F : ra_Fx X p rm_N_doWant s m args c prog_13_method_42_code 3 cn_N) (hr : meth.sig.returnType = (some .boolean)) (hlk : meth.locks = false) : ra_At X p l e rm_N_doWant s m args below meth c 3 (MQ below (ra_Qc X Z) args s 0 0 (ra_A X)) (b_N_doWant_0 Z) 0 :=
  r_aload_n F d_N_doWant_0 rfl <| r_getR F cg_N (j := 19) (by decide) rfl fl_N_61 d_N_doWant_1 <| r_bipush F d_N_doWant_4 (by decide) <| r_iload_n F d_N_doWant_6 rfl <| r_imul F d_N_doWant_7 <| r_aload_n F d_N_doWant_8 rfl <| r_getR F cg_N (j := 20) (by decide) rfl fl_N_64 d_N_doWant_9 <| r_iload_n F d_N_doWant_12 rfl <| r_iaload F d_N_doWant_13 <| r_iadd F d_N_doWant_14 <| r_iaload F d_N_doWant_15 <| r_aload_n F d_N_doWant_16 rfl <| r_getR F cg_N (j := 19) (by decide) rfl fl_N_61 d_N_doWant_17 <| r_bipush F d_N_doWant_20 (by decide) <| r_iload_n F d_N_doWant_22 rfl <| r_imul F d_N_doWant_23 <| r_aload_n F d_N_doWant_24 rfl <| r_getR F cg_N (j := 20) (by decide) rfl fl_N_64 d_N_doWant_25 <| r_iload_n F d_N_doWant_28 rfl <| r_iaload F d_N_doWant_29 <| r_iadd F d_N_doWant_30 <| r_iaload F d_N_doWant_31 <| r_icmp_le F d_N_doWant_32 (by decide) (o_N_doWant_74 F hr hlk) (o_N_doWant_35 F hr hlk)
theorem g_N_doWant {l : Launch} {X : ra_X}  (sp : ra_Sp) (ve : ∀ as σ Z, ra_c1 as = true → as.length = 3 → sp as σ Z → b_N_doWant_0 Z (ra_pad 3 as) [] σ) : ra_MOK l X mi_N_doWant sp := by
  refine ra_enter (k := fun Z as σ => b_N_doWant_0 Z) cn_N rfl (by decide +kernel) ⟨by decide +kernel, by decide +kernel⟩ (by decide +kernel) ?_ ve
  intro p e s m args below meth c Z as σ hsp F hr hlk
  exact o_N_doWant_0 F hr hlk

theorem d_N_want_0 : decode prog_13_method_44_code 0 = .ok (.aload_n 0, 1) := by decide +kernel
theorem d_N_want_1 : decode prog_13_method_44_code 1 = .ok (.iload_n 1, 1) := by decide +kernel
theorem d_N_want_2 : decode prog_13_method_44_code 2 = .ok (.invokevirtual 140, 3) := by decide +kernel
theorem d_N_want_5 : decode prog_13_method_44_code 5 = .ok (.ifCond .eq 16, 3) := by decide +kernel
theorem d_N_want_8 : decode prog_13_method_44_code 8 = .ok (.aload_n 0, 1) := by decide +kernel
theorem d_N_want_9 : decode prog_13_method_44_code 9 = .ok (.iload_n 2, 1) := by decide +kernel
theorem d_N_want_10 : decode prog_13_method_44_code 10 = .ok (.invokevirtual 140, 3) := by decide +kernel
theorem d_N_want_13 : decode prog_13_method_44_code 13 = .ok (.ifCond .eq 8, 3) := by decide +kernel
theorem d_N_want_16 : decode prog_13_method_44_code 16 = .ok (.iload_n 1, 1) := by decide +kernel
theorem d_N_want_17 : decode prog_13_method_44_code 17 = .ok (.iload_n 2, 1) := by decide +kernel
theorem d_N_want_18 : decode prog_13_method_44_code 18 = .ok (.if_icmp .ne 6, 3) := by decide +kernel
theorem d_N_want_21 : decode prog_13_method_44_code 21 = .ok (.bipush (-2), 2) := by decide +kernel
theorem d_N_want_23 : decode prog_13_method_44_code 23 = .ok (.ireturn, 1) := by decide +kernel
theorem d_N_want_24 : decode prog_13_method_44_code 24 = .ok (.aload_n 0, 1) := by decide +kernel
theorem d_N_want_25 : decode prog_13_method_44_code 25 = .ok (.invokevirtual 191, 3) := by decide +kernel
theorem d_N_want_28 : decode prog_13_method_44_code 28 = .ok (.aload_n 0, 1) := by decide +kernel
theorem d_N_want_29 : decode prog_13_method_44_code 29 = .ok (.iload_n 1, 1) := by decide +kernel
theorem d_N_want_30 : decode prog_13_method_44_code 30 = .ok (.iload_n 2, 1) := by decide +kernel
theorem d_N_want_31 : decode prog_13_method_44_code 31 = .ok (.invokevirtual 194, 3) := by decide +kernel
theorem d_N_want_34 : decode prog_13_method_44_code 34 = .ok (.ifCond .eq 7, 3) := by decide +kernel
theorem d_N_want_37 : decode prog_13_method_44_code 37 = .ok (.iconst 1, 1) := by decide +kernel
theorem d_N_want_38 : decode prog_13_method_44_code 38 = .ok (.goto 4, 3) := by decide +kernel
theorem d_N_want_41 : decode prog_13_method_44_code 41 = .ok (.iconst 0, 1) := by decide +kernel
theorem d_N_want_42 : decode prog_13_method_44_code 42 = .ok (.ireturn, 1) := by decide +kernel
def b_N_want_42 (c0 c1 c2 : ra_Sp) (Z : ra_R) : ra_K := w_ir Z
def b_N_want_41 (c0 c1 c2 : ra_Sp) (Z : ra_R) : ra_K := w_c 0 <| (b_N_want_42 c0 c1 c2 Z)
def b_N_want_37 (c0 c1 c2 : ra_Sp) (Z : ra_R) : ra_K := w_c 1 <| (b_N_want_42 c0 c1 c2 Z)
def b_N_want_24 (c0 c1 c2 : ra_Sp) (Z : ra_R) : ra_K := w_al 0 <| w_cv c1 1 11 <| w_al 0 <| w_il 1 <| w_il 2 <| w_cv c2 3 11 <| w_b1 (fun x => x = 0) (b_N_want_41 c0 c1 c2 Z) (b_N_want_37 c0 c1 c2 Z)
def b_N_want_21 (c0 c1 c2 : ra_Sp) (Z : ra_R) : ra_K := w_c (-2) <| w_ir Z
def b_N_want_16 (c0 c1 c2 : ra_Sp) (Z : ra_R) : ra_K := w_il 1 <| w_il 2 <| w_b2 (fun x y => x = y) (b_N_want_21 c0 c1 c2 Z) (b_N_want_24 c0 c1 c2 Z)
def b_N_want_8 (c0 c1 c2 : ra_Sp) (Z : ra_R) : ra_K := w_al 0 <| w_il 2 <| w_cv c0 2 11 <| w_b1 (fun x => x = 0) (b_N_want_21 c0 c1 c2 Z) (b_N_want_16 c0 c1 c2 Z)
def b_N_want_0 (c0 c1 c2 : ra_Sp) (Z : ra_R) : ra_K := w_al 0 <| w_il 1 <| w_cv c0 2 11 <| w_b1 (fun x => x = 0) (b_N_want_21 c0 c1 c2 Z) (b_N_want_8 c0 c1 c2 Z)
theorem o_N_want_42 {X : ra_X} {p : Program} {l : Launch} {e : Env} {s : State} {m : MethodId} {args : Array Value} {below : List Frame} {meth : Method} {c : Code} {Z : ra_R} {c0 c1 c2 : ra_Sp}  (h0 : ra_MOK l X mi_N_isHouse c0) (h1 : ra_MOK l X mi_N_hasAsTold c1) (h2 : ra_MOK l X mi_N_doWant c2) (F : ra_Fx X p rm_N_want s m args c prog_13_method_44_code 3 cn_N) (hr : meth.sig.returnType = (some .int)) (hlk : meth.locks = false) : ra_At X p l e rm_N_want s m args below meth c 3 (MQ below (ra_Qc X Z) args s 0 0 (ra_A X)) (b_N_want_42 c0 c1 c2 Z) 42 :=
  r_ireturn F hr hlk d_N_want_42
theorem o_N_want_41 {X : ra_X} {p : Program} {l : Launch} {e : Env} {s : State} {m : MethodId} {args : Array Value} {below : List Frame} {meth : Method} {c : Code} {Z : ra_R} {c0 c1 c2 : ra_Sp}  (h0 : ra_MOK l X mi_N_isHouse c0) (h1 : ra_MOK l X mi_N_hasAsTold c1) (h2 : ra_MOK l X mi_N_doWant c2) (F : ra_Fx X p rm_N_want s m args c prog_13_method_44_code 3 cn_N) (hr : meth.sig.returnType = (some .int)) (hlk : meth.locks = false) : ra_At X p l e rm_N_want s m args below meth c 3 (MQ below (ra_Qc X Z) args s 0 0 (ra_A X)) (b_N_want_41 c0 c1 c2 Z) 41 :=
  r_iconst F d_N_want_41 (by decide) <| (o_N_want_42 h0 h1 h2 F hr hlk)
theorem o_N_want_37 {X : ra_X} {p : Program} {l : Launch} {e : Env} {s : State} {m : MethodId} {args : Array Value} {below : List Frame} {meth : Method} {c : Code} {Z : ra_R} {c0 c1 c2 : ra_Sp}  (h0 : ra_MOK l X mi_N_isHouse c0) (h1 : ra_MOK l X mi_N_hasAsTold c1) (h2 : ra_MOK l X mi_N_doWant c2) (F : ra_Fx X p rm_N_want s m args c prog_13_method_44_code 3 cn_N) (hr : meth.sig.returnType = (some .int)) (hlk : meth.locks = false) : ra_At X p l e rm_N_want s m args below meth c 3 (MQ below (ra_Qc X Z) args s 0 0 (ra_A X)) (b_N_want_37 c0 c1 c2 Z) 37 :=
  r_iconst F d_N_want_37 (by decide) <| r_goto F d_N_want_38 (by decide) (o_N_want_42 h0 h1 h2 F hr hlk)
theorem o_N_want_24 {X : ra_X} {p : Program} {l : Launch} {e : Env} {s : State} {m : MethodId} {args : Array Value} {below : List Frame} {meth : Method} {c : Code} {Z : ra_R} {c0 c1 c2 : ra_Sp}  (h0 : ra_MOK l X mi_N_isHouse c0) (h1 : ra_MOK l X mi_N_hasAsTold c1) (h2 : ra_MOK l X mi_N_doWant c2) (F : ra_Fx X p rm_N_want s m args c prog_13_method_44_code 3 cn_N) (hr : meth.sig.returnType = (some .int)) (hlk : meth.locks = false) : ra_At X p l e rm_N_want s m args below meth c 3 (MQ below (ra_Qc X Z) args s 0 0 (ra_A X)) (b_N_want_24 c0 c1 c2 Z) 24 :=
  r_aload_n F d_N_want_24 rfl <| r_callV F h1 (co_N_hasAsTold (by decide +kernel) (by decide +kernel)) ⟨rfl, by decide +kernel⟩ ⟨rfl, by decide⟩ ml_N_191 im_N_hasAsTold se_N_hasAsTold d_N_want_25 <| r_aload_n F d_N_want_28 rfl <| r_iload_n F d_N_want_29 rfl <| r_iload_n F d_N_want_30 rfl <| r_callV F h2 (co_N_doWant (by decide +kernel) (by decide +kernel)) ⟨rfl, by decide +kernel⟩ ⟨rfl, by decide⟩ ml_N_194 im_N_doWant se_N_doWant d_N_want_31 <| r_if_eq F d_N_want_34 (by decide) (o_N_want_41 h0 h1 h2 F hr hlk) (o_N_want_37 h0 h1 h2 F hr hlk)
theorem o_N_want_21 {X : ra_X} {p : Program} {l : Launch} {e : Env} {s : State} {m : MethodId} {args : Array Value} {below : List Frame} {meth : Method} {c : Code} {Z : ra_R} {c0 c1 c2 : ra_Sp}  (h0 : ra_MOK l X mi_N_isHouse c0) (h1 : ra_MOK l X mi_N_hasAsTold c1) (h2 : ra_MOK l X mi_N_doWant c2) (F : ra_Fx X p rm_N_want s m args c prog_13_method_44_code 3 cn_N) (hr : meth.sig.returnType = (some .int)) (hlk : meth.locks = false) : ra_At X p l e rm_N_want s m args below meth c 3 (MQ below (ra_Qc X Z) args s 0 0 (ra_A X)) (b_N_want_21 c0 c1 c2 Z) 21 :=
  r_bipush F d_N_want_21 (by decide) <| r_ireturn F hr hlk d_N_want_23
theorem o_N_want_16 {X : ra_X} {p : Program} {l : Launch} {e : Env} {s : State} {m : MethodId} {args : Array Value} {below : List Frame} {meth : Method} {c : Code} {Z : ra_R} {c0 c1 c2 : ra_Sp}  (h0 : ra_MOK l X mi_N_isHouse c0) (h1 : ra_MOK l X mi_N_hasAsTold c1) (h2 : ra_MOK l X mi_N_doWant c2) (F : ra_Fx X p rm_N_want s m args c prog_13_method_44_code 3 cn_N) (hr : meth.sig.returnType = (some .int)) (hlk : meth.locks = false) : ra_At X p l e rm_N_want s m args below meth c 3 (MQ below (ra_Qc X Z) args s 0 0 (ra_A X)) (b_N_want_16 c0 c1 c2 Z) 16 :=
  r_iload_n F d_N_want_16 rfl <| r_iload_n F d_N_want_17 rfl <| r_icmp_ne F d_N_want_18 (by decide) (o_N_want_24 h0 h1 h2 F hr hlk) (o_N_want_21 h0 h1 h2 F hr hlk)
theorem o_N_want_8 {X : ra_X} {p : Program} {l : Launch} {e : Env} {s : State} {m : MethodId} {args : Array Value} {below : List Frame} {meth : Method} {c : Code} {Z : ra_R} {c0 c1 c2 : ra_Sp}  (h0 : ra_MOK l X mi_N_isHouse c0) (h1 : ra_MOK l X mi_N_hasAsTold c1) (h2 : ra_MOK l X mi_N_doWant c2) (F : ra_Fx X p rm_N_want s m args c prog_13_method_44_code 3 cn_N) (hr : meth.sig.returnType = (some .int)) (hlk : meth.locks = false) : ra_At X p l e rm_N_want s m args below meth c 3 (MQ below (ra_Qc X Z) args s 0 0 (ra_A X)) (b_N_want_8 c0 c1 c2 Z) 8 :=
  r_aload_n F d_N_want_8 rfl <| r_iload_n F d_N_want_9 rfl <| r_callV F h0 (co_N_isHouse (by decide +kernel) (by decide +kernel)) ⟨rfl, by decide +kernel⟩ ⟨rfl, by decide⟩ ml_N_140 im_N_isHouse se_N_isHouse d_N_want_10 <| r_if_eq F d_N_want_13 (by decide) (o_N_want_21 h0 h1 h2 F hr hlk) (o_N_want_16 h0 h1 h2 F hr hlk)
theorem o_N_want_0 {X : ra_X} {p : Program} {l : Launch} {e : Env} {s : State} {m : MethodId} {args : Array Value} {below : List Frame} {meth : Method} {c : Code} {Z : ra_R} {c0 c1 c2 : ra_Sp}  (h0 : ra_MOK l X mi_N_isHouse c0) (h1 : ra_MOK l X mi_N_hasAsTold c1) (h2 : ra_MOK l X mi_N_doWant c2) (F : ra_Fx X p rm_N_want s m args c prog_13_method_44_code 3 cn_N) (hr : meth.sig.returnType = (some .int)) (hlk : meth.locks = false) : ra_At X p l e rm_N_want s m args below meth c 3 (MQ below (ra_Qc X Z) args s 0 0 (ra_A X)) (b_N_want_0 c0 c1 c2 Z) 0 :=
  r_aload_n F d_N_want_0 rfl <| r_iload_n F d_N_want_1 rfl <| r_callV F h0 (co_N_isHouse (by decide +kernel) (by decide +kernel)) ⟨rfl, by decide +kernel⟩ ⟨rfl, by decide⟩ ml_N_140 im_N_isHouse se_N_isHouse d_N_want_2 <| r_if_eq F d_N_want_5 (by decide) (o_N_want_21 h0 h1 h2 F hr hlk) (o_N_want_8 h0 h1 h2 F hr hlk)
theorem g_N_want {l : Launch} {X : ra_X} {c0 c1 c2 : ra_Sp}  (h0 : ra_MOK l X mi_N_isHouse c0) (h1 : ra_MOK l X mi_N_hasAsTold c1) (h2 : ra_MOK l X mi_N_doWant c2) (sp : ra_Sp) (ve : ∀ as σ Z, ra_c1 as = true → as.length = 3 → sp as σ Z → b_N_want_0 c0 c1 c2 Z (ra_pad 3 as) [] σ) : ra_MOK l X mi_N_want sp := by
  refine ra_enter (k := fun Z as σ => b_N_want_0 c0 c1 c2 Z) cn_N rfl (by decide +kernel) ⟨by decide +kernel, by decide +kernel⟩ (by decide +kernel) ?_ ve
  intro p e s m args below meth c Z as σ hsp F hr hlk
  exact o_N_want_0 h0 h1 h2 F hr hlk

theorem d_N_marketOf_0 : decode prog_13_method_45_code 0 = .ok (.aload_n 0, 1) := by decide +kernel
theorem d_N_marketOf_1 : decode prog_13_method_45_code 1 = .ok (.invokevirtual 191, 3) := by decide +kernel
theorem d_N_marketOf_4 : decode prog_13_method_45_code 4 = .ok (.iconst 0, 1) := by decide +kernel
theorem d_N_marketOf_5 : decode prog_13_method_45_code 5 = .ok (.istore_n 2, 1) := by decide +kernel
theorem d_N_marketOf_6 : decode prog_13_method_45_code 6 = .ok (.iconst 1, 1) := by decide +kernel
theorem d_N_marketOf_7 : decode prog_13_method_45_code 7 = .ok (.istore_n 3, 1) := by decide +kernel
theorem d_N_marketOf_8 : decode prog_13_method_45_code 8 = .ok (.iload_n 3, 1) := by decide +kernel
theorem d_N_marketOf_9 : decode prog_13_method_45_code 9 = .ok (.ifCond .eq 103, 3) := by decide +kernel
theorem d_N_marketOf_12 : decode prog_13_method_45_code 12 = .ok (.iconst 0, 1) := by decide +kernel
theorem d_N_marketOf_13 : decode prog_13_method_45_code 13 = .ok (.istore_n 3, 1) := by decide +kernel
theorem d_N_marketOf_14 : decode prog_13_method_45_code 14 = .ok (.iconst 0, 1) := by decide +kernel
theorem d_N_marketOf_15 : decode prog_13_method_45_code 15 = .ok (.istore 4, 2) := by decide +kernel
theorem d_N_marketOf_17 : decode prog_13_method_45_code 17 = .ok (.iload 4, 2) := by decide +kernel
theorem d_N_marketOf_19 : decode prog_13_method_45_code 19 = .ok (.aload_n 0, 1) := by decide +kernel
theorem d_N_marketOf_20 : decode prog_13_method_45_code 20 = .ok (.getfield 109, 3) := by decide +kernel
theorem d_N_marketOf_23 : decode prog_13_method_45_code 23 = .ok (.if_icmp .ge 86, 3) := by decide +kernel
theorem d_N_marketOf_26 : decode prog_13_method_45_code 26 = .ok (.iload_n 3, 1) := by decide +kernel
theorem d_N_marketOf_27 : decode prog_13_method_45_code 27 = .ok (.ifCond .ne 82, 3) := by decide +kernel
theorem d_N_marketOf_30 : decode prog_13_method_45_code 30 = .ok (.iload 4, 2) := by decide +kernel
theorem d_N_marketOf_32 : decode prog_13_method_45_code 32 = .ok (.iconst 1, 1) := by decide +kernel
theorem d_N_marketOf_33 : decode prog_13_method_45_code 33 = .ok (.iadd, 1) := by decide +kernel
theorem d_N_marketOf_34 : decode prog_13_method_45_code 34 = .ok (.istore 5, 2) := by decide +kernel
theorem d_N_marketOf_36 : decode prog_13_method_45_code 36 = .ok (.iload 5, 2) := by decide +kernel
theorem d_N_marketOf_38 : decode prog_13_method_45_code 38 = .ok (.aload_n 0, 1) := by decide +kernel
theorem d_N_marketOf_39 : decode prog_13_method_45_code 39 = .ok (.getfield 109, 3) := by decide +kernel
theorem d_N_marketOf_42 : decode prog_13_method_45_code 42 = .ok (.if_icmp .ge 61, 3) := by decide +kernel
theorem d_N_marketOf_45 : decode prog_13_method_45_code 45 = .ok (.iload_n 3, 1) := by decide +kernel
theorem d_N_marketOf_46 : decode prog_13_method_45_code 46 = .ok (.ifCond .ne 57, 3) := by decide +kernel
theorem d_N_marketOf_49 : decode prog_13_method_45_code 49 = .ok (.aload_n 0, 1) := by decide +kernel
theorem d_N_marketOf_50 : decode prog_13_method_45_code 50 = .ok (.iload 4, 2) := by decide +kernel
theorem d_N_marketOf_52 : decode prog_13_method_45_code 52 = .ok (.iload 5, 2) := by decide +kernel
theorem d_N_marketOf_54 : decode prog_13_method_45_code 54 = .ok (.invokevirtual 194, 3) := by decide +kernel
theorem d_N_marketOf_57 : decode prog_13_method_45_code 57 = .ok (.ifCond .eq 40, 3) := by decide +kernel
theorem d_N_marketOf_60 : decode prog_13_method_45_code 60 = .ok (.aload_n 0, 1) := by decide +kernel
theorem d_N_marketOf_61 : decode prog_13_method_45_code 61 = .ok (.getfield 64, 3) := by decide +kernel
theorem d_N_marketOf_64 : decode prog_13_method_45_code 64 = .ok (.iload 4, 2) := by decide +kernel
theorem d_N_marketOf_66 : decode prog_13_method_45_code 66 = .ok (.iaload, 1) := by decide +kernel
theorem d_N_marketOf_67 : decode prog_13_method_45_code 67 = .ok (.istore 6, 2) := by decide +kernel
theorem d_N_marketOf_69 : decode prog_13_method_45_code 69 = .ok (.aload_n 0, 1) := by decide +kernel
theorem d_N_marketOf_70 : decode prog_13_method_45_code 70 = .ok (.getfield 64, 3) := by decide +kernel
theorem d_N_marketOf_73 : decode prog_13_method_45_code 73 = .ok (.iload 4, 2) := by decide +kernel
theorem d_N_marketOf_75 : decode prog_13_method_45_code 75 = .ok (.aload_n 0, 1) := by decide +kernel
theorem d_N_marketOf_76 : decode prog_13_method_45_code 76 = .ok (.getfield 64, 3) := by decide +kernel
theorem d_N_marketOf_79 : decode prog_13_method_45_code 79 = .ok (.iload 5, 2) := by decide +kernel
theorem d_N_marketOf_81 : decode prog_13_method_45_code 81 = .ok (.iaload, 1) := by decide +kernel
theorem d_N_marketOf_82 : decode prog_13_method_45_code 82 = .ok (.iastore, 1) := by decide +kernel
theorem d_N_marketOf_83 : decode prog_13_method_45_code 83 = .ok (.aload_n 0, 1) := by decide +kernel
theorem d_N_marketOf_84 : decode prog_13_method_45_code 84 = .ok (.getfield 64, 3) := by decide +kernel
theorem d_N_marketOf_87 : decode prog_13_method_45_code 87 = .ok (.iload 5, 2) := by decide +kernel
theorem d_N_marketOf_89 : decode prog_13_method_45_code 89 = .ok (.iload 6, 2) := by decide +kernel
theorem d_N_marketOf_91 : decode prog_13_method_45_code 91 = .ok (.iastore, 1) := by decide +kernel
theorem d_N_marketOf_92 : decode prog_13_method_45_code 92 = .ok (.iinc 2 1, 3) := by decide +kernel
theorem d_N_marketOf_95 : decode prog_13_method_45_code 95 = .ok (.iconst 1, 1) := by decide +kernel
theorem d_N_marketOf_96 : decode prog_13_method_45_code 96 = .ok (.istore_n 3, 1) := by decide +kernel
theorem d_N_marketOf_97 : decode prog_13_method_45_code 97 = .ok (.iinc 5 1, 3) := by decide +kernel
theorem d_N_marketOf_100 : decode prog_13_method_45_code 100 = .ok (.goto (-64), 3) := by decide +kernel
theorem d_N_marketOf_103 : decode prog_13_method_45_code 103 = .ok (.iinc 4 1, 3) := by decide +kernel
theorem d_N_marketOf_106 : decode prog_13_method_45_code 106 = .ok (.goto (-89), 3) := by decide +kernel
theorem d_N_marketOf_109 : decode prog_13_method_45_code 109 = .ok (.goto (-101), 3) := by decide +kernel
theorem d_N_marketOf_112 : decode prog_13_method_45_code 112 = .ok (.iconst 0, 1) := by decide +kernel
theorem d_N_marketOf_113 : decode prog_13_method_45_code 113 = .ok (.istore 4, 2) := by decide +kernel
theorem d_N_marketOf_115 : decode prog_13_method_45_code 115 = .ok (.iconst 0, 1) := by decide +kernel
theorem d_N_marketOf_116 : decode prog_13_method_45_code 116 = .ok (.istore 5, 2) := by decide +kernel
theorem d_N_marketOf_118 : decode prog_13_method_45_code 118 = .ok (.iload 5, 2) := by decide +kernel
theorem d_N_marketOf_120 : decode prog_13_method_45_code 120 = .ok (.aload_n 0, 1) := by decide +kernel
theorem d_N_marketOf_121 : decode prog_13_method_45_code 121 = .ok (.getfield 109, 3) := by decide +kernel
theorem d_N_marketOf_124 : decode prog_13_method_45_code 124 = .ok (.if_icmp .ge 32, 3) := by decide +kernel
theorem d_N_marketOf_127 : decode prog_13_method_45_code 127 = .ok (.iload 4, 2) := by decide +kernel
theorem d_N_marketOf_129 : decode prog_13_method_45_code 129 = .ok (.aload_n 0, 1) := by decide +kernel
theorem d_N_marketOf_130 : decode prog_13_method_45_code 130 = .ok (.getfield 61, 3) := by decide +kernel
theorem d_N_marketOf_133 : decode prog_13_method_45_code 133 = .ok (.bipush 8, 2) := by decide +kernel
theorem d_N_marketOf_135 : decode prog_13_method_45_code 135 = .ok (.iload 5, 2) := by decide +kernel
theorem d_N_marketOf_137 : decode prog_13_method_45_code 137 = .ok (.imul, 1) := by decide +kernel
theorem d_N_marketOf_138 : decode prog_13_method_45_code 138 = .ok (.aload_n 0, 1) := by decide +kernel
theorem d_N_marketOf_139 : decode prog_13_method_45_code 139 = .ok (.getfield 64, 3) := by decide +kernel
theorem d_N_marketOf_142 : decode prog_13_method_45_code 142 = .ok (.iload 5, 2) := by decide +kernel
theorem d_N_marketOf_144 : decode prog_13_method_45_code 144 = .ok (.iaload, 1) := by decide +kernel
theorem d_N_marketOf_145 : decode prog_13_method_45_code 145 = .ok (.iadd, 1) := by decide +kernel
theorem d_N_marketOf_146 : decode prog_13_method_45_code 146 = .ok (.iaload, 1) := by decide +kernel
theorem d_N_marketOf_147 : decode prog_13_method_45_code 147 = .ok (.iadd, 1) := by decide +kernel
theorem d_N_marketOf_148 : decode prog_13_method_45_code 148 = .ok (.istore 4, 2) := by decide +kernel
theorem d_N_marketOf_150 : decode prog_13_method_45_code 150 = .ok (.iinc 5 1, 3) := by decide +kernel
theorem d_N_marketOf_153 : decode prog_13_method_45_code 153 = .ok (.goto (-35), 3) := by decide +kernel
theorem d_N_marketOf_156 : decode prog_13_method_45_code 156 = .ok (.iload_n 1, 1) := by decide +kernel
theorem d_N_marketOf_157 : decode prog_13_method_45_code 157 = .ok (.iconst (-1), 1) := by decide +kernel
theorem d_N_marketOf_158 : decode prog_13_method_45_code 158 = .ok (.if_icmp .ne 7, 3) := by decide +kernel
theorem d_N_marketOf_161 : decode prog_13_method_45_code 161 = .ok (.iload_n 2, 1) := by decide +kernel
theorem d_N_marketOf_162 : decode prog_13_method_45_code 162 = .ok (.goto 20, 3) := by decide +kernel
theorem d_N_marketOf_165 : decode prog_13_method_45_code 165 = .ok (.iload_n 1, 1) := by decide +kernel
theorem d_N_marketOf_166 : decode prog_13_method_45_code 166 = .ok (.bipush (-2), 2) := by decide +kernel
theorem d_N_marketOf_168 : decode prog_13_method_45_code 168 = .ok (.if_icmp .ne 8, 3) := by decide +kernel
theorem d_N_marketOf_171 : decode prog_13_method_45_code 171 = .ok (.iload 4, 2) := by decide +kernel
theorem d_N_marketOf_173 : decode prog_13_method_45_code 173 = .ok (.goto 9, 3) := by decide +kernel
theorem d_N_marketOf_176 : decode prog_13_method_45_code 176 = .ok (.aload_n 0, 1) := by decide +kernel
theorem d_N_marketOf_177 : decode prog_13_method_45_code 177 = .ok (.getfield 64, 3) := by decide +kernel
theorem d_N_marketOf_180 : decode prog_13_method_45_code 180 = .ok (.iload_n 1, 1) := by decide +kernel
theorem d_N_marketOf_181 : decode prog_13_method_45_code 181 = .ok (.iaload, 1) := by decide +kernel
theorem d_N_marketOf_182 : decode prog_13_method_45_code 182 = .ok (.ireturn, 1) := by decide +kernel
def b_N_marketOf_182 (c0 c1 : ra_Sp) (I : Nat → ra_K) (Z : ra_R) : ra_K := w_ir Z
def b_N_marketOf_176 (c0 c1 : ra_Sp) (I : Nat → ra_K) (Z : ra_R) : ra_K := w_al 0 <| w_gr 11 20 <| w_il 1 <| w_ald <| (b_N_marketOf_182 c0 c1 I Z)
def b_N_marketOf_171 (c0 c1 : ra_Sp) (I : Nat → ra_K) (Z : ra_R) : ra_K := w_il 4 <| (b_N_marketOf_182 c0 c1 I Z)
def b_N_marketOf_165 (c0 c1 : ra_Sp) (I : Nat → ra_K) (Z : ra_R) : ra_K := w_il 1 <| w_c (-2) <| w_b2 (fun x y => x = y) (b_N_marketOf_171 c0 c1 I Z) (b_N_marketOf_176 c0 c1 I Z)
def b_N_marketOf_161 (c0 c1 : ra_Sp) (I : Nat → ra_K) (Z : ra_R) : ra_K := w_il 2 <| (b_N_marketOf_182 c0 c1 I Z)
def b_N_marketOf_156 (c0 c1 : ra_Sp) (I : Nat → ra_K) (Z : ra_R) : ra_K := w_il 1 <| w_c (-1) <| w_b2 (fun x y => x = y) (b_N_marketOf_161 c0 c1 I Z) (b_N_marketOf_165 c0 c1 I Z)
def b_N_marketOf_127 (c0 c1 : ra_Sp) (I : Nat → ra_K) (Z : ra_R) : ra_K := w_il 4 <| w_al 0 <| w_gr 11 19 <| w_c 8 <| w_il 5 <| w_i2 (fun x y => x * y) <| w_al 0 <| w_gr 11 20 <| w_il 5 <| w_ald <| w_i2 (fun x y => x + y) <| w_ald <| w_i2 (fun x y => x + y) <| w_is 4 <| w_inc 5 1 <| (I 118)
def b_N_marketOf_118 (c0 c1 : ra_Sp) (I : Nat → ra_K) (Z : ra_R) : ra_K := w_il 5 <| w_al 0 <| w_gi 11 2 <| w_b2 (fun x y => y ≤ x) (b_N_marketOf_156 c0 c1 I Z) (b_N_marketOf_127 c0 c1 I Z)
def b_N_marketOf_112 (c0 c1 : ra_Sp) (I : Nat → ra_K) (Z : ra_R) : ra_K := w_c 0 <| w_is 4 <| w_c 0 <| w_is 5 <| (I 118)
def b_N_marketOf_109 (c0 c1 : ra_Sp) (I : Nat → ra_K) (Z : ra_R) : ra_K := (I 8)
def b_N_marketOf_103 (c0 c1 : ra_Sp) (I : Nat → ra_K) (Z : ra_R) : ra_K := w_inc 4 1 <| (I 17)
def b_N_marketOf_97 (c0 c1 : ra_Sp) (I : Nat → ra_K) (Z : ra_R) : ra_K := w_inc 5 1 <| (I 36)
def b_N_marketOf_60 (c0 c1 : ra_Sp) (I : Nat → ra_K) (Z : ra_R) : ra_K := w_al 0 <| w_gr 11 20 <| w_il 4 <| w_ald <| w_is 6 <| w_al 0 <| w_gr 11 20 <| w_il 4 <| w_al 0 <| w_gr 11 20 <| w_il 5 <| w_ald <| w_ast <| w_al 0 <| w_gr 11 20 <| w_il 5 <| w_il 6 <| w_ast <| w_inc 2 1 <| w_c 1 <| w_is 3 <| (b_N_marketOf_97 c0 c1 I Z)
def b_N_marketOf_49 (c0 c1 : ra_Sp) (I : Nat → ra_K) (Z : ra_R) : ra_K := w_al 0 <| w_il 4 <| w_il 5 <| w_cv c1 3 11 <| w_b1 (fun x => x = 0) (b_N_marketOf_97 c0 c1 I Z) (b_N_marketOf_60 c0 c1 I Z)
def b_N_marketOf_45 (c0 c1 : ra_Sp) (I : Nat → ra_K) (Z : ra_R) : ra_K := w_il 3 <| w_b1 (fun x => x = 0) (b_N_marketOf_49 c0 c1 I Z) (b_N_marketOf_103 c0 c1 I Z)
def b_N_marketOf_36 (c0 c1 : ra_Sp) (I : Nat → ra_K) (Z : ra_R) : ra_K := w_il 5 <| w_al 0 <| w_gi 11 2 <| w_b2 (fun x y => y ≤ x) (b_N_marketOf_103 c0 c1 I Z) (b_N_marketOf_45 c0 c1 I Z)
def b_N_marketOf_30 (c0 c1 : ra_Sp) (I : Nat → ra_K) (Z : ra_R) : ra_K := w_il 4 <| w_c 1 <| w_i2 (fun x y => x + y) <| w_is 5 <| (I 36)
def b_N_marketOf_26 (c0 c1 : ra_Sp) (I : Nat → ra_K) (Z : ra_R) : ra_K := w_il 3 <| w_b1 (fun x => x = 0) (b_N_marketOf_30 c0 c1 I Z) (b_N_marketOf_109 c0 c1 I Z)
def b_N_marketOf_17 (c0 c1 : ra_Sp) (I : Nat → ra_K) (Z : ra_R) : ra_K := w_il 4 <| w_al 0 <| w_gi 11 2 <| w_b2 (fun x y => y ≤ x) (b_N_marketOf_109 c0 c1 I Z) (b_N_marketOf_26 c0 c1 I Z)
def b_N_marketOf_12 (c0 c1 : ra_Sp) (I : Nat → ra_K) (Z : ra_R) : ra_K := w_c 0 <| w_is 3 <| w_c 0 <| w_is 4 <| (I 17)
def b_N_marketOf_8 (c0 c1 : ra_Sp) (I : Nat → ra_K) (Z : ra_R) : ra_K := w_il 3 <| w_b1 (fun x => x = 0) (b_N_marketOf_112 c0 c1 I Z) (b_N_marketOf_12 c0 c1 I Z)
def b_N_marketOf_0 (c0 c1 : ra_Sp) (I : Nat → ra_K) (Z : ra_R) : ra_K := w_al 0 <| w_cv c0 1 11 <| w_c 0 <| w_is 2 <| w_c 1 <| w_is 3 <| (I 8)
theorem o_N_marketOf_182 {X : ra_X} {p : Program} {l : Launch} {e : Env} {s : State} {m : MethodId} {args : Array Value} {below : List Frame} {meth : Method} {c : Code} {Z : ra_R} {c0 c1 : ra_Sp}  (h0 : ra_MOK l X mi_N_hasAsTold c0) (h1 : ra_MOK l X mi_N_doWant c1) (F : ra_Fx X p rm_N_marketOf s m args c prog_13_method_45_code 7 cn_N) (hr : meth.sig.returnType = (some .int)) (hlk : meth.locks = false) {I : Nat → ra_K} (hI : ∀ t ∈ [8, 17, 36, 118], ra_At X p l e rm_N_marketOf s m args below meth c 7 (MQ below (ra_Qc X Z) args s 0 0 (ra_A X)) (I t) t) : ra_At X p l e rm_N_marketOf s m args below meth c 7 (MQ below (ra_Qc X Z) args s 0 0 (ra_A X)) (b_N_marketOf_182 c0 c1 I Z) 182 :=
  r_ireturn F hr hlk d_N_marketOf_182
theorem o_N_marketOf_176 {X : ra_X} {p : Program} {l : Launch} {e : Env} {s : State} {m : MethodId} {args : Array Value} {below : List Frame} {meth : Method} {c : Code} {Z : ra_R} {c0 c1 : ra_Sp}  (h0 : ra_MOK l X mi_N_hasAsTold c0) (h1 : ra_MOK l X mi_N_doWant c1) (F : ra_Fx X p rm_N_marketOf s m args c prog_13_method_45_code 7 cn_N) (hr : meth.sig.returnType = (some .int)) (hlk : meth.locks = false) {I : Nat → ra_K} (hI : ∀ t ∈ [8, 17, 36, 118], ra_At X p l e rm_N_marketOf s m args below meth c 7 (MQ below (ra_Qc X Z) args s 0 0 (ra_A X)) (I t) t) : ra_At X p l e rm_N_marketOf s m args below meth c 7 (MQ below (ra_Qc X Z) args s 0 0 (ra_A X)) (b_N_marketOf_176 c0 c1 I Z) 176 :=
  r_aload_n F d_N_marketOf_176 rfl <| r_getR F cg_N (j := 20) (by decide) rfl fl_N_64 d_N_marketOf_177 <| r_iload_n F d_N_marketOf_180 rfl <| r_iaload F d_N_marketOf_181 <| (o_N_marketOf_182 h0 h1 F hr hlk hI)
theorem o_N_marketOf_171 {X : ra_X} {p : Program} {l : Launch} {e : Env} {s : State} {m : MethodId} {args : Array Value} {below : List Frame} {meth : Method} {c : Code} {Z : ra_R} {c0 c1 : ra_Sp}  (h0 : ra_MOK l X mi_N_hasAsTold c0) (h1 : ra_MOK l X mi_N_doWant c1) (F : ra_Fx X p rm_N_marketOf s m args c prog_13_method_45_code 7 cn_N) (hr : meth.sig.returnType = (some .int)) (hlk : meth.locks = false) {I : Nat → ra_K} (hI : ∀ t ∈ [8, 17, 36, 118], ra_At X p l e rm_N_marketOf s m args below meth c 7 (MQ below (ra_Qc X Z) args s 0 0 (ra_A X)) (I t) t) : ra_At X p l e rm_N_marketOf s m args below meth c 7 (MQ below (ra_Qc X Z) args s 0 0 (ra_A X)) (b_N_marketOf_171 c0 c1 I Z) 171 :=
  r_iload F d_N_marketOf_171 <| r_goto F d_N_marketOf_173 (by decide) (o_N_marketOf_182 h0 h1 F hr hlk hI)
theorem o_N_marketOf_165 {X : ra_X} {p : Program} {l : Launch} {e : Env} {s : State} {m : MethodId} {args : Array Value} {below : List Frame} {meth : Method} {c : Code} {Z : ra_R} {c0 c1 : ra_Sp}  (h0 : ra_MOK l X mi_N_hasAsTold c0) (h1 : ra_MOK l X mi_N_doWant c1) (F : ra_Fx X p rm_N_marketOf s m args c prog_13_method_45_code 7 cn_N) (hr : meth.sig.returnType = (some .int)) (hlk : meth.locks = false) {I : Nat → ra_K} (hI : ∀ t ∈ [8, 17, 36, 118], ra_At X p l e rm_N_marketOf s m args below meth c 7 (MQ below (ra_Qc X Z) args s 0 0 (ra_A X)) (I t) t) : ra_At X p l e rm_N_marketOf s m args below meth c 7 (MQ below (ra_Qc X Z) args s 0 0 (ra_A X)) (b_N_marketOf_165 c0 c1 I Z) 165 :=
  r_iload_n F d_N_marketOf_165 rfl <| r_bipush F d_N_marketOf_166 (by decide) <| r_icmp_ne F d_N_marketOf_168 (by decide) (o_N_marketOf_176 h0 h1 F hr hlk hI) (o_N_marketOf_171 h0 h1 F hr hlk hI)
theorem o_N_marketOf_161 {X : ra_X} {p : Program} {l : Launch} {e : Env} {s : State} {m : MethodId} {args : Array Value} {below : List Frame} {meth : Method} {c : Code} {Z : ra_R} {c0 c1 : ra_Sp}  (h0 : ra_MOK l X mi_N_hasAsTold c0) (h1 : ra_MOK l X mi_N_doWant c1) (F : ra_Fx X p rm_N_marketOf s m args c prog_13_method_45_code 7 cn_N) (hr : meth.sig.returnType = (some .int)) (hlk : meth.locks = false) {I : Nat → ra_K} (hI : ∀ t ∈ [8, 17, 36, 118], ra_At X p l e rm_N_marketOf s m args below meth c 7 (MQ below (ra_Qc X Z) args s 0 0 (ra_A X)) (I t) t) : ra_At X p l e rm_N_marketOf s m args below meth c 7 (MQ below (ra_Qc X Z) args s 0 0 (ra_A X)) (b_N_marketOf_161 c0 c1 I Z) 161 :=
  r_iload_n F d_N_marketOf_161 rfl <| r_goto F d_N_marketOf_162 (by decide) (o_N_marketOf_182 h0 h1 F hr hlk hI)
theorem o_N_marketOf_156 {X : ra_X} {p : Program} {l : Launch} {e : Env} {s : State} {m : MethodId} {args : Array Value} {below : List Frame} {meth : Method} {c : Code} {Z : ra_R} {c0 c1 : ra_Sp}  (h0 : ra_MOK l X mi_N_hasAsTold c0) (h1 : ra_MOK l X mi_N_doWant c1) (F : ra_Fx X p rm_N_marketOf s m args c prog_13_method_45_code 7 cn_N) (hr : meth.sig.returnType = (some .int)) (hlk : meth.locks = false) {I : Nat → ra_K} (hI : ∀ t ∈ [8, 17, 36, 118], ra_At X p l e rm_N_marketOf s m args below meth c 7 (MQ below (ra_Qc X Z) args s 0 0 (ra_A X)) (I t) t) : ra_At X p l e rm_N_marketOf s m args below meth c 7 (MQ below (ra_Qc X Z) args s 0 0 (ra_A X)) (b_N_marketOf_156 c0 c1 I Z) 156 :=
  r_iload_n F d_N_marketOf_156 rfl <| r_iconst F d_N_marketOf_157 (by decide) <| r_icmp_ne F d_N_marketOf_158 (by decide) (o_N_marketOf_165 h0 h1 F hr hlk hI) (o_N_marketOf_161 h0 h1 F hr hlk hI)
theorem o_N_marketOf_127 {X : ra_X} {p : Program} {l : Launch} {e : Env} {s : State} {m : MethodId} {args : Array Value} {below : List Frame} {meth : Method} {c : Code} {Z : ra_R} {c0 c1 : ra_Sp}  (h0 : ra_MOK l X mi_N_hasAsTold c0) (h1 : ra_MOK l X mi_N_doWant c1) (F : ra_Fx X p rm_N_marketOf s m args c prog_13_method_45_code 7 cn_N) (hr : meth.sig.returnType = (some .int)) (hlk : meth.locks = false) {I : Nat → ra_K} (hI : ∀ t ∈ [8, 17, 36, 118], ra_At X p l e rm_N_marketOf s m args below meth c 7 (MQ below (ra_Qc X Z) args s 0 0 (ra_A X)) (I t) t) : ra_At X p l e rm_N_marketOf s m args below meth c 7 (MQ below (ra_Qc X Z) args s 0 0 (ra_A X)) (b_N_marketOf_127 c0 c1 I Z) 127 :=
  r_iload F d_N_marketOf_127 <| r_aload_n F d_N_marketOf_129 rfl <| r_getR F cg_N (j := 19) (by decide) rfl fl_N_61 d_N_marketOf_130 <| r_bipush F d_N_marketOf_133 (by decide) <| r_iload F d_N_marketOf_135 <| r_imul F d_N_marketOf_137 <| r_aload_n F d_N_marketOf_138 rfl <| r_getR F cg_N (j := 20) (by decide) rfl fl_N_64 d_N_marketOf_139 <| r_iload F d_N_marketOf_142 <| r_iaload F d_N_marketOf_144 <| r_iadd F d_N_marketOf_145 <| r_iaload F d_N_marketOf_146 <| r_iadd F d_N_marketOf_147 <| r_istore F d_N_marketOf_148 (by decide) <| r_iinc F d_N_marketOf_150 (by decide) (by decide) <| r_goto F d_N_marketOf_153 (by decide) (hI 118 (by decide))
theorem o_N_marketOf_118 {X : ra_X} {p : Program} {l : Launch} {e : Env} {s : State} {m : MethodId} {args : Array Value} {below : List Frame} {meth : Method} {c : Code} {Z : ra_R} {c0 c1 : ra_Sp}  (h0 : ra_MOK l X mi_N_hasAsTold c0) (h1 : ra_MOK l X mi_N_doWant c1) (F : ra_Fx X p rm_N_marketOf s m args c prog_13_method_45_code 7 cn_N) (hr : meth.sig.returnType = (some .int)) (hlk : meth.locks = false) {I : Nat → ra_K} (hI : ∀ t ∈ [8, 17, 36, 118], ra_At X p l e rm_N_marketOf s m args below meth c 7 (MQ below (ra_Qc X Z) args s 0 0 (ra_A X)) (I t) t) : ra_At X p l e rm_N_marketOf s m args below meth c 7 (MQ below (ra_Qc X Z) args s 0 0 (ra_A X)) (b_N_marketOf_118 c0 c1 I Z) 118 :=
  r_iload F d_N_marketOf_118 <| r_aload_n F d_N_marketOf_120 rfl <| r_getI F cg_N (j := 2) (by decide) rfl fl_N_109 d_N_marketOf_121 <| r_icmp_ge F d_N_marketOf_124 (by decide) (o_N_marketOf_156 h0 h1 F hr hlk hI) (o_N_marketOf_127 h0 h1 F hr hlk hI)
theorem o_N_marketOf_112 {X : ra_X} {p : Program} {l : Launch} {e : Env} {s : State} {m : MethodId} {args : Array Value} {below : List Frame} {meth : Method} {c : Code} {Z : ra_R} {c0 c1 : ra_Sp}  (h0 : ra_MOK l X mi_N_hasAsTold c0) (h1 : ra_MOK l X mi_N_doWant c1) (F : ra_Fx X p rm_N_marketOf s m args c prog_13_method_45_code 7 cn_N) (hr : meth.sig.returnType = (some .int)) (hlk : meth.locks = false) {I : Nat → ra_K} (hI : ∀ t ∈ [8, 17, 36, 118], ra_At X p l e rm_N_marketOf s m args below meth c 7 (MQ below (ra_Qc X Z) args s 0 0 (ra_A X)) (I t) t) : ra_At X p l e rm_N_marketOf s m args below meth c 7 (MQ below (ra_Qc X Z) args s 0 0 (ra_A X)) (b_N_marketOf_112 c0 c1 I Z) 112 :=
  r_iconst F d_N_marketOf_112 (by decide) <| r_istore F d_N_marketOf_113 (by decide) <| r_iconst F d_N_marketOf_115 (by decide) <| r_istore F d_N_marketOf_116 (by decide) <| (hI 118 (by decide))
theorem o_N_marketOf_109 {X : ra_X} {p : Program} {l : Launch} {e : Env} {s : State} {m : MethodId} {args : Array Value} {below : List Frame} {meth : Method} {c : Code} {Z : ra_R} {c0 c1 : ra_Sp}  (h0 : ra_MOK l X mi_N_hasAsTold c0) (h1 : ra_MOK l X mi_N_doWant c1) (F : ra_Fx X p rm_N_marketOf s m args c prog_13_method_45_code 7 cn_N) (hr : meth.sig.returnType = (some .int)) (hlk : meth.locks = false) {I : Nat → ra_K} (hI : ∀ t ∈ [8, 17, 36, 118], ra_At X p l e rm_N_marketOf s m args below meth c 7 (MQ below (ra_Qc X Z) args s 0 0 (ra_A X)) (I t) t) : ra_At X p l e rm_N_marketOf s m args below meth c 7 (MQ below (ra_Qc X Z) args s 0 0 (ra_A X)) (b_N_marketOf_109 c0 c1 I Z) 109 :=
  r_goto F d_N_marketOf_109 (by decide) (hI 8 (by decide))
theorem o_N_marketOf_103 {X : ra_X} {p : Program} {l : Launch} {e : Env} {s : State} {m : MethodId} {args : Array Value} {below : List Frame} {meth : Method} {c : Code} {Z : ra_R} {c0 c1 : ra_Sp}  (h0 : ra_MOK l X mi_N_hasAsTold c0) (h1 : ra_MOK l X mi_N_doWant c1) (F : ra_Fx X p rm_N_marketOf s m args c prog_13_method_45_code 7 cn_N) (hr : meth.sig.returnType = (some .int)) (hlk : meth.locks = false) {I : Nat → ra_K} (hI : ∀ t ∈ [8, 17, 36, 118], ra_At X p l e rm_N_marketOf s m args below meth c 7 (MQ below (ra_Qc X Z) args s 0 0 (ra_A X)) (I t) t) : ra_At X p l e rm_N_marketOf s m args below meth c 7 (MQ below (ra_Qc X Z) args s 0 0 (ra_A X)) (b_N_marketOf_103 c0 c1 I Z) 103 :=
  r_iinc F d_N_marketOf_103 (by decide) (by decide) <| r_goto F d_N_marketOf_106 (by decide) (hI 17 (by decide))
theorem o_N_marketOf_97 {X : ra_X} {p : Program} {l : Launch} {e : Env} {s : State} {m : MethodId} {args : Array Value} {below : List Frame} {meth : Method} {c : Code} {Z : ra_R} {c0 c1 : ra_Sp}  (h0 : ra_MOK l X mi_N_hasAsTold c0) (h1 : ra_MOK l X mi_N_doWant c1) (F : ra_Fx X p rm_N_marketOf s m args c prog_13_method_45_code 7 cn_N) (hr : meth.sig.returnType = (some .int)) (hlk : meth.locks = false) {I : Nat → ra_K} (hI : ∀ t ∈ [8, 17, 36, 118], ra_At X p l e rm_N_marketOf s m args below meth c 7 (MQ below (ra_Qc X Z) args s 0 0 (ra_A X)) (I t) t) : ra_At X p l e rm_N_marketOf s m args below meth c 7 (MQ below (ra_Qc X Z) args s 0 0 (ra_A X)) (b_N_marketOf_97 c0 c1 I Z) 97 :=
  r_iinc F d_N_marketOf_97 (by decide) (by decide) <| r_goto F d_N_marketOf_100 (by decide) (hI 36 (by decide))
theorem o_N_marketOf_60 {X : ra_X} {p : Program} {l : Launch} {e : Env} {s : State} {m : MethodId} {args : Array Value} {below : List Frame} {meth : Method} {c : Code} {Z : ra_R} {c0 c1 : ra_Sp}  (h0 : ra_MOK l X mi_N_hasAsTold c0) (h1 : ra_MOK l X mi_N_doWant c1) (F : ra_Fx X p rm_N_marketOf s m args c prog_13_method_45_code 7 cn_N) (hr : meth.sig.returnType = (some .int)) (hlk : meth.locks = false) {I : Nat → ra_K} (hI : ∀ t ∈ [8, 17, 36, 118], ra_At X p l e rm_N_marketOf s m args below meth c 7 (MQ below (ra_Qc X Z) args s 0 0 (ra_A X)) (I t) t) : ra_At X p l e rm_N_marketOf s m args below meth c 7 (MQ below (ra_Qc X Z) args s 0 0 (ra_A X)) (b_N_marketOf_60 c0 c1 I Z) 60 :=
  r_aload_n F d_N_marketOf_60 rfl <| r_getR F cg_N (j := 20) (by decide) rfl fl_N_64 d_N_marketOf_61 <| r_iload F d_N_marketOf_64 <| r_iaload F d_N_marketOf_66 <| r_istore F d_N_marketOf_67 (by decide) <| r_aload_n F d_N_marketOf_69 rfl <| r_getR F cg_N (j := 20) (by decide) rfl fl_N_64 d_N_marketOf_70 <| r_iload F d_N_marketOf_73 <| r_aload_n F d_N_marketOf_75 rfl <| r_getR F cg_N (j := 20) (by decide) rfl fl_N_64 d_N_marketOf_76 <| r_iload F d_N_marketOf_79 <| r_iaload F d_N_marketOf_81 <| r_iastore F d_N_marketOf_82 <| r_aload_n F d_N_marketOf_83 rfl <| r_getR F cg_N (j := 20) (by decide) rfl fl_N_64 d_N_marketOf_84 <| r_iload F d_N_marketOf_87 <| r_iload F d_N_marketOf_89 <| r_iastore F d_N_marketOf_91 <| r_iinc F d_N_marketOf_92 (by decide) (by decide) <| r_iconst F d_N_marketOf_95 (by decide) <| r_istore_n F d_N_marketOf_96 rfl (by decide) <| (o_N_marketOf_97 h0 h1 F hr hlk hI)
theorem o_N_marketOf_49 {X : ra_X} {p : Program} {l : Launch} {e : Env} {s : State} {m : MethodId} {args : Array Value} {below : List Frame} {meth : Method} {c : Code} {Z : ra_R} {c0 c1 : ra_Sp}  (h0 : ra_MOK l X mi_N_hasAsTold c0) (h1 : ra_MOK l X mi_N_doWant c1) (F : ra_Fx X p rm_N_marketOf s m args c prog_13_method_45_code 7 cn_N) (hr : meth.sig.returnType = (some .int)) (hlk : meth.locks = false) {I : Nat → ra_K} (hI : ∀ t ∈ [8, 17, 36, 118], ra_At X p l e rm_N_marketOf s m args below meth c 7 (MQ below (ra_Qc X Z) args s 0 0 (ra_A X)) (I t) t) : ra_At X p l e rm_N_marketOf s m args below meth c 7 (MQ below (ra_Qc X Z) args s 0 0 (ra_A X)) (b_N_marketOf_49 c0 c1 I Z) 49 :=
  r_aload_n F d_N_marketOf_49 rfl <| r_iload F d_N_marketOf_50 <| r_iload F d_N_marketOf_52 <| r_callV F h1 (co_N_doWant (by decide +kernel) (by decide +kernel)) ⟨rfl, by decide +kernel⟩ ⟨rfl, by decide⟩ ml_N_194 im_N_doWant se_N_doWant d_N_marketOf_54 <| r_if_eq F d_N_marketOf_57 (by decide) (o_N_marketOf_97 h0 h1 F hr hlk hI) (o_N_marketOf_60 h0 h1 F hr hlk hI)
theorem o_N_marketOf_45 {X : ra_X} {p : Program} {l : Launch} {e : Env} {s : State} {m : MethodId} {args : Array Value} {below : List Frame} {meth : Method} {c : Code} {Z : ra_R} {c0 c1 : ra_Sp}  (h0 : ra_MOK l X mi_N_hasAsTold c0) (h1 : ra_MOK l X mi_N_doWant c1) (F : ra_Fx X p rm_N_marketOf s m args c prog_13_method_45_code 7 cn_N) (hr : meth.sig.returnType = (some .int)) (hlk : meth.locks = false) {I : Nat → ra_K} (hI : ∀ t ∈ [8, 17, 36, 118], ra_At X p l e rm_N_marketOf s m args below meth c 7 (MQ below (ra_Qc X Z) args s 0 0 (ra_A X)) (I t) t) : ra_At X p l e rm_N_marketOf s m args below meth c 7 (MQ below (ra_Qc X Z) args s 0 0 (ra_A X)) (b_N_marketOf_45 c0 c1 I Z) 45 :=
  r_iload_n F d_N_marketOf_45 rfl <| r_if_ne F d_N_marketOf_46 (by decide) (o_N_marketOf_103 h0 h1 F hr hlk hI) (o_N_marketOf_49 h0 h1 F hr hlk hI)
theorem o_N_marketOf_36 {X : ra_X} {p : Program} {l : Launch} {e : Env} {s : State} {m : MethodId} {args : Array Value} {below : List Frame} {meth : Method} {c : Code} {Z : ra_R} {c0 c1 : ra_Sp}  (h0 : ra_MOK l X mi_N_hasAsTold c0) (h1 : ra_MOK l X mi_N_doWant c1) (F : ra_Fx X p rm_N_marketOf s m args c prog_13_method_45_code 7 cn_N) (hr : meth.sig.returnType = (some .int)) (hlk : meth.locks = false) {I : Nat → ra_K} (hI : ∀ t ∈ [8, 17, 36, 118], ra_At X p l e rm_N_marketOf s m args below meth c 7 (MQ below (ra_Qc X Z) args s 0 0 (ra_A X)) (I t) t) : ra_At X p l e rm_N_marketOf s m args below meth c 7 (MQ below (ra_Qc X Z) args s 0 0 (ra_A X)) (b_N_marketOf_36 c0 c1 I Z) 36 :=
  r_iload F d_N_marketOf_36 <| r_aload_n F d_N_marketOf_38 rfl <| r_getI F cg_N (j := 2) (by decide) rfl fl_N_109 d_N_marketOf_39 <| r_icmp_ge F d_N_marketOf_42 (by decide) (o_N_marketOf_103 h0 h1 F hr hlk hI) (o_N_marketOf_45 h0 h1 F hr hlk hI)
theorem o_N_marketOf_30 {X : ra_X} {p : Program} {l : Launch} {e : Env} {s : State} {m : MethodId} {args : Array Value} {below : List Frame} {meth : Method} {c : Code} {Z : ra_R} {c0 c1 : ra_Sp}  (h0 : ra_MOK l X mi_N_hasAsTold c0) (h1 : ra_MOK l X mi_N_doWant c1) (F : ra_Fx X p rm_N_marketOf s m args c prog_13_method_45_code 7 cn_N) (hr : meth.sig.returnType = (some .int)) (hlk : meth.locks = false) {I : Nat → ra_K} (hI : ∀ t ∈ [8, 17, 36, 118], ra_At X p l e rm_N_marketOf s m args below meth c 7 (MQ below (ra_Qc X Z) args s 0 0 (ra_A X)) (I t) t) : ra_At X p l e rm_N_marketOf s m args below meth c 7 (MQ below (ra_Qc X Z) args s 0 0 (ra_A X)) (b_N_marketOf_30 c0 c1 I Z) 30 :=
  r_iload F d_N_marketOf_30 <| r_iconst F d_N_marketOf_32 (by decide) <| r_iadd F d_N_marketOf_33 <| r_istore F d_N_marketOf_34 (by decide) <| (hI 36 (by decide))
theorem o_N_marketOf_26 {X : ra_X} {p : Program} {l : Launch} {e : Env} {s : State} {m : MethodId} {args : Array Value} {below : List Frame} {meth : Method} {c : Code} {Z : ra_R} {c0 c1 : ra_Sp}  (h0 : ra_MOK l X mi_N_hasAsTold c0) (h1 : ra_MOK l X mi_N_doWant c1) (F : ra_Fx X p rm_N_marketOf s m args c prog_13_method_45_code 7 cn_N) (hr : meth.sig.returnType = (some .int)) (hlk : meth.locks = false) {I : Nat → ra_K} (hI : ∀ t ∈ [8, 17, 36, 118], ra_At X p l e rm_N_marketOf s m args below meth c 7 (MQ below (ra_Qc X Z) args s 0 0 (ra_A X)) (I t) t) : ra_At X p l e rm_N_marketOf s m args below meth c 7 (MQ below (ra_Qc X Z) args s 0 0 (ra_A X)) (b_N_marketOf_26 c0 c1 I Z) 26 :=
  r_iload_n F d_N_marketOf_26 rfl <| r_if_ne F d_N_marketOf_27 (by decide) (o_N_marketOf_109 h0 h1 F hr hlk hI) (o_N_marketOf_30 h0 h1 F hr hlk hI)
theorem o_N_marketOf_17 {X : ra_X} {p : Program} {l : Launch} {e : Env} {s : State} {m : MethodId} {args : Array Value} {below : List Frame} {meth : Method} {c : Code} {Z : ra_R} {c0 c1 : ra_Sp}  (h0 : ra_MOK l X mi_N_hasAsTold c0) (h1 : ra_MOK l X mi_N_doWant c1) (F : ra_Fx X p rm_N_marketOf s m args c prog_13_method_45_code 7 cn_N) (hr : meth.sig.returnType = (some .int)) (hlk : meth.locks = false) {I : Nat → ra_K} (hI : ∀ t ∈ [8, 17, 36, 118], ra_At X p l e rm_N_marketOf s m args below meth c 7 (MQ below (ra_Qc X Z) args s 0 0 (ra_A X)) (I t) t) : ra_At X p l e rm_N_marketOf s m args below meth c 7 (MQ below (ra_Qc X Z) args s 0 0 (ra_A X)) (b_N_marketOf_17 c0 c1 I Z) 17 :=
  r_iload F d_N_marketOf_17 <| r_aload_n F d_N_marketOf_19 rfl <| r_getI F cg_N (j := 2) (by decide) rfl fl_N_109 d_N_marketOf_20 <| r_icmp_ge F d_N_marketOf_23 (by decide) (o_N_marketOf_109 h0 h1 F hr hlk hI) (o_N_marketOf_26 h0 h1 F hr hlk hI)
theorem o_N_marketOf_12 {X : ra_X} {p : Program} {l : Launch} {e : Env} {s : State} {m : MethodId} {args : Array Value} {below : List Frame} {meth : Method} {c : Code} {Z : ra_R} {c0 c1 : ra_Sp}  (h0 : ra_MOK l X mi_N_hasAsTold c0) (h1 : ra_MOK l X mi_N_doWant c1) (F : ra_Fx X p rm_N_marketOf s m args c prog_13_method_45_code 7 cn_N) (hr : meth.sig.returnType = (some .int)) (hlk : meth.locks = false) {I : Nat → ra_K} (hI : ∀ t ∈ [8, 17, 36, 118], ra_At X p l e rm_N_marketOf s m args below meth c 7 (MQ below (ra_Qc X Z) args s 0 0 (ra_A X)) (I t) t) : ra_At X p l e rm_N_marketOf s m args below meth c 7 (MQ below (ra_Qc X Z) args s 0 0 (ra_A X)) (b_N_marketOf_12 c0 c1 I Z) 12 :=
  r_iconst F d_N_marketOf_12 (by decide) <| r_istore_n F d_N_marketOf_13 rfl (by decide) <| r_iconst F d_N_marketOf_14 (by decide) <| r_istore F d_N_marketOf_15 (by decide) <| (hI 17 (by decide))
theorem o_N_marketOf_8 {X : ra_X} {p : Program} {l : Launch} {e : Env} {s : State} {m : MethodId} {args : Array Value} {below : List Frame} {meth : Method} {c : Code} {Z : ra_R} {c0 c1 : ra_Sp}  (h0 : ra_MOK l X mi_N_hasAsTold c0) (h1 : ra_MOK l X mi_N_doWant c1) (F : ra_Fx X p rm_N_marketOf s m args c prog_13_method_45_code 7 cn_N) (hr : meth.sig.returnType = (some .int)) (hlk : meth.locks = false) {I : Nat → ra_K} (hI : ∀ t ∈ [8, 17, 36, 118], ra_At X p l e rm_N_marketOf s m args below meth c 7 (MQ below (ra_Qc X Z) args s 0 0 (ra_A X)) (I t) t) : ra_At X p l e rm_N_marketOf s m args below meth c 7 (MQ below (ra_Qc X Z) args s 0 0 (ra_A X)) (b_N_marketOf_8 c0 c1 I Z) 8 :=
  r_iload_n F d_N_marketOf_8 rfl <| r_if_eq F d_N_marketOf_9 (by decide) (o_N_marketOf_112 h0 h1 F hr hlk hI) (o_N_marketOf_12 h0 h1 F hr hlk hI)
theorem o_N_marketOf_0 {X : ra_X} {p : Program} {l : Launch} {e : Env} {s : State} {m : MethodId} {args : Array Value} {below : List Frame} {meth : Method} {c : Code} {Z : ra_R} {c0 c1 : ra_Sp}  (h0 : ra_MOK l X mi_N_hasAsTold c0) (h1 : ra_MOK l X mi_N_doWant c1) (F : ra_Fx X p rm_N_marketOf s m args c prog_13_method_45_code 7 cn_N) (hr : meth.sig.returnType = (some .int)) (hlk : meth.locks = false) {I : Nat → ra_K} (hI : ∀ t ∈ [8, 17, 36, 118], ra_At X p l e rm_N_marketOf s m args below meth c 7 (MQ below (ra_Qc X Z) args s 0 0 (ra_A X)) (I t) t) : ra_At X p l e rm_N_marketOf s m args below meth c 7 (MQ below (ra_Qc X Z) args s 0 0 (ra_A X)) (b_N_marketOf_0 c0 c1 I Z) 0 :=
  r_aload_n F d_N_marketOf_0 rfl <| r_callV F h0 (co_N_hasAsTold (by decide +kernel) (by decide +kernel)) ⟨rfl, by decide +kernel⟩ ⟨rfl, by decide⟩ ml_N_191 im_N_hasAsTold se_N_hasAsTold d_N_marketOf_1 <| r_iconst F d_N_marketOf_4 (by decide) <| r_istore_n F d_N_marketOf_5 rfl (by decide) <| r_iconst F d_N_marketOf_6 (by decide) <| r_istore_n F d_N_marketOf_7 rfl (by decide) <| (hI 8 (by decide))
theorem g_N_marketOf {l : Launch} {X : ra_X} {c0 c1 : ra_Sp}  (h0 : ra_MOK l X mi_N_hasAsTold c0) (h1 : ra_MOK l X mi_N_doWant c1) (sp : ra_Sp) (I : ra_R → List Value → ra_St → Nat → ra_M → ra_K) (ve : ∀ as σ Z, ra_c1 as = true → as.length = 2 → sp as σ Z → b_N_marketOf_0 c0 c1 (ra_I (I Z as σ)) Z (ra_pad 7 as) [] σ) (v8 : ∀ as σ Z, sp as σ Z → ∀ μ L S σ1, I Z as σ 8 μ L S σ1 → b_N_marketOf_8 c0 c1 (ra_J (I Z as σ) μ) Z L S σ1) (v17 : ∀ as σ Z, sp as σ Z → ∀ μ L S σ1, I Z as σ 17 μ L S σ1 → b_N_marketOf_17 c0 c1 (ra_J (I Z as σ) μ) Z L S σ1) (v36 : ∀ as σ Z, sp as σ Z → ∀ μ L S σ1, I Z as σ 36 μ L S σ1 → b_N_marketOf_36 c0 c1 (ra_J (I Z as σ) μ) Z L S σ1) (v118 : ∀ as σ Z, sp as σ Z → ∀ μ L S σ1, I Z as σ 118 μ L S σ1 → b_N_marketOf_118 c0 c1 (ra_J (I Z as σ) μ) Z L S σ1) : ra_MOK l X mi_N_marketOf sp := by
  refine ra_enter (k := fun Z as σ => b_N_marketOf_0 c0 c1 (ra_I (I Z as σ)) Z) cn_N rfl (by decide +kernel) ⟨by decide +kernel, by decide +kernel⟩ (by decide +kernel) ?_ ve
  intro p e s m args below meth c Z as σ hsp F hr hlk
  refine o_N_marketOf_0 h0 h1 F hr hlk (ra_cuts (b := fun t J => if t = 8 then b_N_marketOf_8 c0 c1 J Z else if t = 17 then b_N_marketOf_17 c0 c1 J Z else if t = 36 then b_N_marketOf_36 c0 c1 J Z else if t = 118 then b_N_marketOf_118 c0 c1 J Z else fun _ _ _ => False) ?_ ?_)
  · intro t ht J hJ
    simp only [List.mem_cons, List.not_mem_nil, or_false] at ht
    rcases ht with rfl | rfl | rfl | rfl
    · exact o_N_marketOf_8 h0 h1 F hr hlk hJ
    · exact o_N_marketOf_17 h0 h1 F hr hlk hJ
    · exact o_N_marketOf_36 h0 h1 F hr hlk hJ
    · exact o_N_marketOf_118 h0 h1 F hr hlk hJ
  · intro t ht μ L S σ1 hI
    simp only [List.mem_cons, List.not_mem_nil, or_false] at ht
    rcases ht with rfl | rfl | rfl | rfl
    · exact v8 as σ Z hsp μ L S σ1 hI
    · exact v17 as σ Z hsp μ L S σ1 hI
    · exact v36 as σ Z hsp μ L S σ1 hI
    · exact v118 as σ Z hsp μ L S σ1 hI

theorem d_N_market_0 : decode prog_13_method_46_code 0 = .ok (.iload_n 1, 1) := by decide +kernel
theorem d_N_market_1 : decode prog_13_method_46_code 1 = .ok (.bipush (-2), 2) := by decide +kernel
theorem d_N_market_3 : decode prog_13_method_46_code 3 = .ok (.iconst (-1), 1) := by decide +kernel
theorem d_N_market_4 : decode prog_13_method_46_code 4 = .ok (.invokestatic 101, 3) := by decide +kernel
theorem d_N_market_7 : decode prog_13_method_46_code 7 = .ok (.ifCond .ne 11, 3) := by decide +kernel
theorem d_N_market_10 : decode prog_13_method_46_code 10 = .ok (.aload_n 0, 1) := by decide +kernel
theorem d_N_market_11 : decode prog_13_method_46_code 11 = .ok (.iload_n 1, 1) := by decide +kernel
theorem d_N_market_12 : decode prog_13_method_46_code 12 = .ok (.invokevirtual 140, 3) := by decide +kernel
theorem d_N_market_15 : decode prog_13_method_46_code 15 = .ok (.ifCond .eq 11, 3) := by decide +kernel
theorem d_N_market_18 : decode prog_13_method_46_code 18 = .ok (.aload_n 0, 1) := by decide +kernel
theorem d_N_market_19 : decode prog_13_method_46_code 19 = .ok (.iload_n 1, 1) := by decide +kernel
theorem d_N_market_20 : decode prog_13_method_46_code 20 = .ok (.invokevirtual 197, 3) := by decide +kernel
theorem d_N_market_23 : decode prog_13_method_46_code 23 = .ok (.goto 5, 3) := by decide +kernel
theorem d_N_market_26 : decode prog_13_method_46_code 26 = .ok (.bipush (-2), 2) := by decide +kernel
theorem d_N_market_28 : decode prog_13_method_46_code 28 = .ok (.ireturn, 1) := by decide +kernel
def b_N_market_28 (c0 c1 c2 : ra_Sp) (Z : ra_R) : ra_K := w_ir Z
def b_N_market_26 (c0 c1 c2 : ra_Sp) (Z : ra_R) : ra_K := w_c (-2) <| (b_N_market_28 c0 c1 c2 Z)
def b_N_market_18 (c0 c1 c2 : ra_Sp) (Z : ra_R) : ra_K := w_al 0 <| w_il 1 <| w_cv c2 2 11 <| (b_N_market_28 c0 c1 c2 Z)
def b_N_market_10 (c0 c1 c2 : ra_Sp) (Z : ra_R) : ra_K := w_al 0 <| w_il 1 <| w_cv c1 2 11 <| w_b1 (fun x => x = 0) (b_N_market_26 c0 c1 c2 Z) (b_N_market_18 c0 c1 c2 Z)
def b_N_market_0 (c0 c1 c2 : ra_Sp) (Z : ra_R) : ra_K := w_il 1 <| w_c (-2) <| w_c (-1) <| w_cs c0 3 <| w_b1 (fun x => x = 0) (b_N_market_10 c0 c1 c2 Z) (b_N_market_18 c0 c1 c2 Z)
theorem o_N_market_28 {X : ra_X} {p : Program} {l : Launch} {e : Env} {s : State} {m : MethodId} {args : Array Value} {below : List Frame} {meth : Method} {c : Code} {Z : ra_R} {c0 c1 c2 : ra_Sp}  (h0 : ra_MOK l X mi_N_in c0) (h1 : ra_MOK l X mi_N_isHouse c1) (h2 : ra_MOK l X mi_N_marketOf c2) (F : ra_Fx X p rm_N_market s m args c prog_13_method_46_code 2 cn_N) (hr : meth.sig.returnType = (some .int)) (hlk : meth.locks = false) : ra_At X p l e rm_N_market s m args below meth c 2 (MQ below (ra_Qc X Z) args s 0 0 (ra_A X)) (b_N_market_28 c0 c1 c2 Z) 28 :=
  r_ireturn F hr hlk d_N_market_28
theorem o_N_market_26 {X : ra_X} {p : Program} {l : Launch} {e : Env} {s : State} {m : MethodId} {args : Array Value} {below : List Frame} {meth : Method} {c : Code} {Z : ra_R} {c0 c1 c2 : ra_Sp}  (h0 : ra_MOK l X mi_N_in c0) (h1 : ra_MOK l X mi_N_isHouse c1) (h2 : ra_MOK l X mi_N_marketOf c2) (F : ra_Fx X p rm_N_market s m args c prog_13_method_46_code 2 cn_N) (hr : meth.sig.returnType = (some .int)) (hlk : meth.locks = false) : ra_At X p l e rm_N_market s m args below meth c 2 (MQ below (ra_Qc X Z) args s 0 0 (ra_A X)) (b_N_market_26 c0 c1 c2 Z) 26 :=
  r_bipush F d_N_market_26 (by decide) <| (o_N_market_28 h0 h1 h2 F hr hlk)
theorem o_N_market_18 {X : ra_X} {p : Program} {l : Launch} {e : Env} {s : State} {m : MethodId} {args : Array Value} {below : List Frame} {meth : Method} {c : Code} {Z : ra_R} {c0 c1 c2 : ra_Sp}  (h0 : ra_MOK l X mi_N_in c0) (h1 : ra_MOK l X mi_N_isHouse c1) (h2 : ra_MOK l X mi_N_marketOf c2) (F : ra_Fx X p rm_N_market s m args c prog_13_method_46_code 2 cn_N) (hr : meth.sig.returnType = (some .int)) (hlk : meth.locks = false) : ra_At X p l e rm_N_market s m args below meth c 2 (MQ below (ra_Qc X Z) args s 0 0 (ra_A X)) (b_N_market_18 c0 c1 c2 Z) 18 :=
  r_aload_n F d_N_market_18 rfl <| r_iload_n F d_N_market_19 rfl <| r_callV F h2 (co_N_marketOf (by decide +kernel) (by decide +kernel)) ⟨rfl, by decide +kernel⟩ ⟨rfl, by decide⟩ ml_N_197 im_N_marketOf se_N_marketOf d_N_market_20 <| r_goto F d_N_market_23 (by decide) (o_N_market_28 h0 h1 h2 F hr hlk)
theorem o_N_market_10 {X : ra_X} {p : Program} {l : Launch} {e : Env} {s : State} {m : MethodId} {args : Array Value} {below : List Frame} {meth : Method} {c : Code} {Z : ra_R} {c0 c1 c2 : ra_Sp}  (h0 : ra_MOK l X mi_N_in c0) (h1 : ra_MOK l X mi_N_isHouse c1) (h2 : ra_MOK l X mi_N_marketOf c2) (F : ra_Fx X p rm_N_market s m args c prog_13_method_46_code 2 cn_N) (hr : meth.sig.returnType = (some .int)) (hlk : meth.locks = false) : ra_At X p l e rm_N_market s m args below meth c 2 (MQ below (ra_Qc X Z) args s 0 0 (ra_A X)) (b_N_market_10 c0 c1 c2 Z) 10 :=
  r_aload_n F d_N_market_10 rfl <| r_iload_n F d_N_market_11 rfl <| r_callV F h1 (co_N_isHouse (by decide +kernel) (by decide +kernel)) ⟨rfl, by decide +kernel⟩ ⟨rfl, by decide⟩ ml_N_140 im_N_isHouse se_N_isHouse d_N_market_12 <| r_if_eq F d_N_market_15 (by decide) (o_N_market_26 h0 h1 h2 F hr hlk) (o_N_market_18 h0 h1 h2 F hr hlk)
theorem o_N_market_0 {X : ra_X} {p : Program} {l : Launch} {e : Env} {s : State} {m : MethodId} {args : Array Value} {below : List Frame} {meth : Method} {c : Code} {Z : ra_R} {c0 c1 c2 : ra_Sp}  (h0 : ra_MOK l X mi_N_in c0) (h1 : ra_MOK l X mi_N_isHouse c1) (h2 : ra_MOK l X mi_N_marketOf c2) (F : ra_Fx X p rm_N_market s m args c prog_13_method_46_code 2 cn_N) (hr : meth.sig.returnType = (some .int)) (hlk : meth.locks = false) : ra_At X p l e rm_N_market s m args below meth c 2 (MQ below (ra_Qc X Z) args s 0 0 (ra_A X)) (b_N_market_0 c0 c1 c2 Z) 0 :=
  r_iload_n F d_N_market_0 rfl <| r_bipush F d_N_market_1 (by decide) <| r_iconst F d_N_market_3 (by decide) <| r_callS F h0 (co_N_in (by decide +kernel) (by decide +kernel)) ⟨rfl, by decide +kernel⟩ ml_N_101 st_N_in d_N_market_4 <| r_if_ne F d_N_market_7 (by decide) (o_N_market_18 h0 h1 h2 F hr hlk) (o_N_market_10 h0 h1 h2 F hr hlk)
theorem g_N_market {l : Launch} {X : ra_X} {c0 c1 c2 : ra_Sp}  (h0 : ra_MOK l X mi_N_in c0) (h1 : ra_MOK l X mi_N_isHouse c1) (h2 : ra_MOK l X mi_N_marketOf c2) (sp : ra_Sp) (ve : ∀ as σ Z, ra_c1 as = true → as.length = 2 → sp as σ Z → b_N_market_0 c0 c1 c2 Z (ra_pad 2 as) [] σ) : ra_MOK l X mi_N_market sp := by
  refine ra_enter (k := fun Z as σ => b_N_market_0 c0 c1 c2 Z) cn_N rfl (by decide +kernel) ⟨by decide +kernel, by decide +kernel⟩ (by decide +kernel) ?_ ve
  intro p e s m args below meth c Z as σ hsp F hr hlk
  exact o_N_market_0 h0 h1 h2 F hr hlk

theorem d_N_bestOf_0 : decode prog_13_method_47_code 0 = .ok (.aload_n 0, 1) := by decide +kernel
theorem d_N_bestOf_1 : decode prog_13_method_47_code 1 = .ok (.invokevirtual 134, 3) := by decide +kernel
theorem d_N_bestOf_4 : decode prog_13_method_47_code 4 = .ok (.iconst 1, 1) := by decide +kernel
theorem d_N_bestOf_5 : decode prog_13_method_47_code 5 = .ok (.aload_n 0, 1) := by decide +kernel
theorem d_N_bestOf_6 : decode prog_13_method_47_code 6 = .ok (.getfield 109, 3) := by decide +kernel
theorem d_N_bestOf_9 : decode prog_13_method_47_code 9 = .ok (.ishl, 1) := by decide +kernel
theorem d_N_bestOf_10 : decode prog_13_method_47_code 10 = .ok (.iconst 1, 1) := by decide +kernel
theorem d_N_bestOf_11 : decode prog_13_method_47_code 11 = .ok (.isub, 1) := by decide +kernel
theorem d_N_bestOf_12 : decode prog_13_method_47_code 12 = .ok (.istore_n 2, 1) := by decide +kernel
theorem d_N_bestOf_13 : decode prog_13_method_47_code 13 = .ok (.iconst 0, 1) := by decide +kernel
theorem d_N_bestOf_14 : decode prog_13_method_47_code 14 = .ok (.istore_n 3, 1) := by decide +kernel
theorem d_N_bestOf_15 : decode prog_13_method_47_code 15 = .ok (.iload_n 3, 1) := by decide +kernel
theorem d_N_bestOf_16 : decode prog_13_method_47_code 16 = .ok (.iload_n 2, 1) := by decide +kernel
theorem d_N_bestOf_17 : decode prog_13_method_47_code 17 = .ok (.if_icmp .gt 25, 3) := by decide +kernel
theorem d_N_bestOf_20 : decode prog_13_method_47_code 20 = .ok (.aload_n 0, 1) := by decide +kernel
theorem d_N_bestOf_21 : decode prog_13_method_47_code 21 = .ok (.getfield 67, 3) := by decide +kernel
theorem d_N_bestOf_24 : decode prog_13_method_47_code 24 = .ok (.sipush 256, 3) := by decide +kernel
theorem d_N_bestOf_27 : decode prog_13_method_47_code 27 = .ok (.aload_n 0, 1) := by decide +kernel
theorem d_N_bestOf_28 : decode prog_13_method_47_code 28 = .ok (.getfield 109, 3) := by decide +kernel
theorem d_N_bestOf_31 : decode prog_13_method_47_code 31 = .ok (.imul, 1) := by decide +kernel
theorem d_N_bestOf_32 : decode prog_13_method_47_code 32 = .ok (.iload_n 3, 1) := by decide +kernel
theorem d_N_bestOf_33 : decode prog_13_method_47_code 33 = .ok (.iadd, 1) := by decide +kernel
theorem d_N_bestOf_34 : decode prog_13_method_47_code 34 = .ok (.iconst 0, 1) := by decide +kernel
theorem d_N_bestOf_35 : decode prog_13_method_47_code 35 = .ok (.iastore, 1) := by decide +kernel
theorem d_N_bestOf_36 : decode prog_13_method_47_code 36 = .ok (.iinc 3 1, 3) := by decide +kernel
theorem d_N_bestOf_39 : decode prog_13_method_47_code 39 = .ok (.goto (-24), 3) := by decide +kernel
theorem d_N_bestOf_42 : decode prog_13_method_47_code 42 = .ok (.aload_n 0, 1) := by decide +kernel
theorem d_N_bestOf_43 : decode prog_13_method_47_code 43 = .ok (.getfield 109, 3) := by decide +kernel
theorem d_N_bestOf_46 : decode prog_13_method_47_code 46 = .ok (.iconst 1, 1) := by decide +kernel
theorem d_N_bestOf_47 : decode prog_13_method_47_code 47 = .ok (.isub, 1) := by decide +kernel
theorem d_N_bestOf_48 : decode prog_13_method_47_code 48 = .ok (.istore_n 3, 1) := by decide +kernel
theorem d_N_bestOf_49 : decode prog_13_method_47_code 49 = .ok (.iload_n 3, 1) := by decide +kernel
theorem d_N_bestOf_50 : decode prog_13_method_47_code 50 = .ok (.ifCond .lt 163, 3) := by decide +kernel
theorem d_N_bestOf_53 : decode prog_13_method_47_code 53 = .ok (.iconst 0, 1) := by decide +kernel
theorem d_N_bestOf_54 : decode prog_13_method_47_code 54 = .ok (.istore 4, 2) := by decide +kernel
theorem d_N_bestOf_56 : decode prog_13_method_47_code 56 = .ok (.iload 4, 2) := by decide +kernel
theorem d_N_bestOf_58 : decode prog_13_method_47_code 58 = .ok (.iload_n 2, 1) := by decide +kernel
theorem d_N_bestOf_59 : decode prog_13_method_47_code 59 = .ok (.if_icmp .gt 148, 3) := by decide +kernel
theorem d_N_bestOf_62 : decode prog_13_method_47_code 62 = .ok (.aload_n 0, 1) := by decide +kernel
theorem d_N_bestOf_63 : decode prog_13_method_47_code 63 = .ok (.getfield 67, 3) := by decide +kernel
theorem d_N_bestOf_66 : decode prog_13_method_47_code 66 = .ok (.sipush 256, 3) := by decide +kernel
theorem d_N_bestOf_69 : decode prog_13_method_47_code 69 = .ok (.iload_n 3, 1) := by decide +kernel
theorem d_N_bestOf_70 : decode prog_13_method_47_code 70 = .ok (.imul, 1) := by decide +kernel
theorem d_N_bestOf_71 : decode prog_13_method_47_code 71 = .ok (.iload 4, 2) := by decide +kernel
theorem d_N_bestOf_73 : decode prog_13_method_47_code 73 = .ok (.iadd, 1) := by decide +kernel
theorem d_N_bestOf_74 : decode prog_13_method_47_code 74 = .ok (.iconst (-1), 1) := by decide +kernel
theorem d_N_bestOf_75 : decode prog_13_method_47_code 75 = .ok (.iastore, 1) := by decide +kernel
theorem d_N_bestOf_76 : decode prog_13_method_47_code 76 = .ok (.iconst 0, 1) := by decide +kernel
theorem d_N_bestOf_77 : decode prog_13_method_47_code 77 = .ok (.istore 5, 2) := by decide +kernel
theorem d_N_bestOf_79 : decode prog_13_method_47_code 79 = .ok (.iload 5, 2) := by decide +kernel
theorem d_N_bestOf_81 : decode prog_13_method_47_code 81 = .ok (.aload_n 0, 1) := by decide +kernel
theorem d_N_bestOf_82 : decode prog_13_method_47_code 82 = .ok (.getfield 109, 3) := by decide +kernel
theorem d_N_bestOf_85 : decode prog_13_method_47_code 85 = .ok (.if_icmp .ge 116, 3) := by decide +kernel
theorem d_N_bestOf_88 : decode prog_13_method_47_code 88 = .ok (.iload 4, 2) := by decide +kernel
theorem d_N_bestOf_90 : decode prog_13_method_47_code 90 = .ok (.invokestatic 182, 3) := by decide +kernel
theorem d_N_bestOf_93 : decode prog_13_method_47_code 93 = .ok (.iload_n 3, 1) := by decide +kernel
theorem d_N_bestOf_94 : decode prog_13_method_47_code 94 = .ok (.if_icmp .ne 107, 3) := by decide +kernel
theorem d_N_bestOf_97 : decode prog_13_method_47_code 97 = .ok (.iload 4, 2) := by decide +kernel
theorem d_N_bestOf_99 : decode prog_13_method_47_code 99 = .ok (.iload 5, 2) := by decide +kernel
theorem d_N_bestOf_101 : decode prog_13_method_47_code 101 = .ok (.invokestatic 116, 3) := by decide +kernel
theorem d_N_bestOf_104 : decode prog_13_method_47_code 104 = .ok (.ifCond .eq 7, 3) := by decide +kernel
theorem d_N_bestOf_107 : decode prog_13_method_47_code 107 = .ok (.iconst (-1), 1) := by decide +kernel
theorem d_N_bestOf_108 : decode prog_13_method_47_code 108 = .ok (.goto 36, 3) := by decide +kernel
theorem d_N_bestOf_111 : decode prog_13_method_47_code 111 = .ok (.aload_n 0, 1) := by decide +kernel
theorem d_N_bestOf_112 : decode prog_13_method_47_code 112 = .ok (.getfield 61, 3) := by decide +kernel
theorem d_N_bestOf_115 : decode prog_13_method_47_code 115 = .ok (.bipush 8, 2) := by decide +kernel
theorem d_N_bestOf_117 : decode prog_13_method_47_code 117 = .ok (.iload_n 3, 1) := by decide +kernel
theorem d_N_bestOf_118 : decode prog_13_method_47_code 118 = .ok (.imul, 1) := by decide +kernel
theorem d_N_bestOf_119 : decode prog_13_method_47_code 119 = .ok (.iload 5, 2) := by decide +kernel
theorem d_N_bestOf_121 : decode prog_13_method_47_code 121 = .ok (.iadd, 1) := by decide +kernel
theorem d_N_bestOf_122 : decode prog_13_method_47_code 122 = .ok (.iaload, 1) := by decide +kernel
theorem d_N_bestOf_123 : decode prog_13_method_47_code 123 = .ok (.aload_n 0, 1) := by decide +kernel
theorem d_N_bestOf_124 : decode prog_13_method_47_code 124 = .ok (.getfield 67, 3) := by decide +kernel
theorem d_N_bestOf_127 : decode prog_13_method_47_code 127 = .ok (.sipush 256, 3) := by decide +kernel
theorem d_N_bestOf_130 : decode prog_13_method_47_code 130 = .ok (.iload_n 3, 1) := by decide +kernel
theorem d_N_bestOf_131 : decode prog_13_method_47_code 131 = .ok (.iconst 1, 1) := by decide +kernel
theorem d_N_bestOf_132 : decode prog_13_method_47_code 132 = .ok (.iadd, 1) := by decide +kernel
theorem d_N_bestOf_133 : decode prog_13_method_47_code 133 = .ok (.imul, 1) := by decide +kernel
theorem d_N_bestOf_134 : decode prog_13_method_47_code 134 = .ok (.iload 4, 2) := by decide +kernel
theorem d_N_bestOf_136 : decode prog_13_method_47_code 136 = .ok (.iconst 1, 1) := by decide +kernel
theorem d_N_bestOf_137 : decode prog_13_method_47_code 137 = .ok (.iload 5, 2) := by decide +kernel
theorem d_N_bestOf_139 : decode prog_13_method_47_code 139 = .ok (.ishl, 1) := by decide +kernel
theorem d_N_bestOf_140 : decode prog_13_method_47_code 140 = .ok (.ior, 1) := by decide +kernel
theorem d_N_bestOf_141 : decode prog_13_method_47_code 141 = .ok (.iadd, 1) := by decide +kernel
theorem d_N_bestOf_142 : decode prog_13_method_47_code 142 = .ok (.iaload, 1) := by decide +kernel
theorem d_N_bestOf_143 : decode prog_13_method_47_code 143 = .ok (.iadd, 1) := by decide +kernel
theorem d_N_bestOf_144 : decode prog_13_method_47_code 144 = .ok (.istore 6, 2) := by decide +kernel
theorem d_N_bestOf_146 : decode prog_13_method_47_code 146 = .ok (.aload_n 0, 1) := by decide +kernel
theorem d_N_bestOf_147 : decode prog_13_method_47_code 147 = .ok (.getfield 67, 3) := by decide +kernel
theorem d_N_bestOf_150 : decode prog_13_method_47_code 150 = .ok (.sipush 256, 3) := by decide +kernel
theorem d_N_bestOf_153 : decode prog_13_method_47_code 153 = .ok (.iload_n 3, 1) := by decide +kernel
theorem d_N_bestOf_154 : decode prog_13_method_47_code 154 = .ok (.imul, 1) := by decide +kernel
theorem d_N_bestOf_155 : decode prog_13_method_47_code 155 = .ok (.iload 4, 2) := by decide +kernel
theorem d_N_bestOf_157 : decode prog_13_method_47_code 157 = .ok (.iadd, 1) := by decide +kernel
theorem d_N_bestOf_158 : decode prog_13_method_47_code 158 = .ok (.iload 6, 2) := by decide +kernel
theorem d_N_bestOf_160 : decode prog_13_method_47_code 160 = .ok (.aload_n 0, 1) := by decide +kernel
theorem d_N_bestOf_161 : decode prog_13_method_47_code 161 = .ok (.getfield 67, 3) := by decide +kernel
theorem d_N_bestOf_164 : decode prog_13_method_47_code 164 = .ok (.sipush 256, 3) := by decide +kernel
theorem d_N_bestOf_167 : decode prog_13_method_47_code 167 = .ok (.iload_n 3, 1) := by decide +kernel
theorem d_N_bestOf_168 : decode prog_13_method_47_code 168 = .ok (.imul, 1) := by decide +kernel
theorem d_N_bestOf_169 : decode prog_13_method_47_code 169 = .ok (.iload 4, 2) := by decide +kernel
theorem d_N_bestOf_171 : decode prog_13_method_47_code 171 = .ok (.iadd, 1) := by decide +kernel
theorem d_N_bestOf_172 : decode prog_13_method_47_code 172 = .ok (.iaload, 1) := by decide +kernel
theorem d_N_bestOf_173 : decode prog_13_method_47_code 173 = .ok (.if_icmp .le 8, 3) := by decide +kernel
theorem d_N_bestOf_176 : decode prog_13_method_47_code 176 = .ok (.iload 6, 2) := by decide +kernel
theorem d_N_bestOf_178 : decode prog_13_method_47_code 178 = .ok (.goto 16, 3) := by decide +kernel
theorem d_N_bestOf_181 : decode prog_13_method_47_code 181 = .ok (.aload_n 0, 1) := by decide +kernel
theorem d_N_bestOf_182 : decode prog_13_method_47_code 182 = .ok (.getfield 67, 3) := by decide +kernel
theorem d_N_bestOf_185 : decode prog_13_method_47_code 185 = .ok (.sipush 256, 3) := by decide +kernel
theorem d_N_bestOf_188 : decode prog_13_method_47_code 188 = .ok (.iload_n 3, 1) := by decide +kernel
theorem d_N_bestOf_189 : decode prog_13_method_47_code 189 = .ok (.imul, 1) := by decide +kernel
theorem d_N_bestOf_190 : decode prog_13_method_47_code 190 = .ok (.iload 4, 2) := by decide +kernel
theorem d_N_bestOf_192 : decode prog_13_method_47_code 192 = .ok (.iadd, 1) := by decide +kernel
theorem d_N_bestOf_193 : decode prog_13_method_47_code 193 = .ok (.iaload, 1) := by decide +kernel
theorem d_N_bestOf_194 : decode prog_13_method_47_code 194 = .ok (.iastore, 1) := by decide +kernel
theorem d_N_bestOf_195 : decode prog_13_method_47_code 195 = .ok (.iinc 5 1, 3) := by decide +kernel
theorem d_N_bestOf_198 : decode prog_13_method_47_code 198 = .ok (.goto (-119), 3) := by decide +kernel
theorem d_N_bestOf_201 : decode prog_13_method_47_code 201 = .ok (.iinc 4 1, 3) := by decide +kernel
theorem d_N_bestOf_204 : decode prog_13_method_47_code 204 = .ok (.goto (-148), 3) := by decide +kernel
theorem d_N_bestOf_207 : decode prog_13_method_47_code 207 = .ok (.iinc 3 (-1), 3) := by decide +kernel
theorem d_N_bestOf_210 : decode prog_13_method_47_code 210 = .ok (.goto (-161), 3) := by decide +kernel
theorem d_N_bestOf_213 : decode prog_13_method_47_code 213 = .ok (.iconst 0, 1) := by decide +kernel
theorem d_N_bestOf_214 : decode prog_13_method_47_code 214 = .ok (.istore_n 3, 1) := by decide +kernel
theorem d_N_bestOf_215 : decode prog_13_method_47_code 215 = .ok (.iconst 0, 1) := by decide +kernel
theorem d_N_bestOf_216 : decode prog_13_method_47_code 216 = .ok (.istore 4, 2) := by decide +kernel
theorem d_N_bestOf_218 : decode prog_13_method_47_code 218 = .ok (.iload 4, 2) := by decide +kernel
theorem d_N_bestOf_220 : decode prog_13_method_47_code 220 = .ok (.aload_n 0, 1) := by decide +kernel
theorem d_N_bestOf_221 : decode prog_13_method_47_code 221 = .ok (.getfield 109, 3) := by decide +kernel
theorem d_N_bestOf_224 : decode prog_13_method_47_code 224 = .ok (.if_icmp .ge 93, 3) := by decide +kernel
theorem d_N_bestOf_227 : decode prog_13_method_47_code 227 = .ok (.iconst 0, 1) := by decide +kernel
theorem d_N_bestOf_228 : decode prog_13_method_47_code 228 = .ok (.istore 5, 2) := by decide +kernel
theorem d_N_bestOf_230 : decode prog_13_method_47_code 230 = .ok (.iload_n 3, 1) := by decide +kernel
theorem d_N_bestOf_231 : decode prog_13_method_47_code 231 = .ok (.iload 5, 2) := by decide +kernel
theorem d_N_bestOf_233 : decode prog_13_method_47_code 233 = .ok (.invokestatic 116, 3) := by decide +kernel
theorem d_N_bestOf_236 : decode prog_13_method_47_code 236 = .ok (.ifCond .ne 53, 3) := by decide +kernel
theorem d_N_bestOf_239 : decode prog_13_method_47_code 239 = .ok (.aload_n 0, 1) := by decide +kernel
theorem d_N_bestOf_240 : decode prog_13_method_47_code 240 = .ok (.getfield 61, 3) := by decide +kernel
theorem d_N_bestOf_243 : decode prog_13_method_47_code 243 = .ok (.bipush 8, 2) := by decide +kernel
theorem d_N_bestOf_245 : decode prog_13_method_47_code 245 = .ok (.iload 4, 2) := by decide +kernel
theorem d_N_bestOf_247 : decode prog_13_method_47_code 247 = .ok (.imul, 1) := by decide +kernel
theorem d_N_bestOf_248 : decode prog_13_method_47_code 248 = .ok (.iload 5, 2) := by decide +kernel
theorem d_N_bestOf_250 : decode prog_13_method_47_code 250 = .ok (.iadd, 1) := by decide +kernel
theorem d_N_bestOf_251 : decode prog_13_method_47_code 251 = .ok (.iaload, 1) := by decide +kernel
theorem d_N_bestOf_252 : decode prog_13_method_47_code 252 = .ok (.aload_n 0, 1) := by decide +kernel
theorem d_N_bestOf_253 : decode prog_13_method_47_code 253 = .ok (.getfield 67, 3) := by decide +kernel
theorem d_N_bestOf_256 : decode prog_13_method_47_code 256 = .ok (.sipush 256, 3) := by decide +kernel
theorem d_N_bestOf_259 : decode prog_13_method_47_code 259 = .ok (.iload 4, 2) := by decide +kernel
theorem d_N_bestOf_261 : decode prog_13_method_47_code 261 = .ok (.iconst 1, 1) := by decide +kernel
theorem d_N_bestOf_262 : decode prog_13_method_47_code 262 = .ok (.iadd, 1) := by decide +kernel
theorem d_N_bestOf_263 : decode prog_13_method_47_code 263 = .ok (.imul, 1) := by decide +kernel
theorem d_N_bestOf_264 : decode prog_13_method_47_code 264 = .ok (.iload_n 3, 1) := by decide +kernel
theorem d_N_bestOf_265 : decode prog_13_method_47_code 265 = .ok (.iconst 1, 1) := by decide +kernel
theorem d_N_bestOf_266 : decode prog_13_method_47_code 266 = .ok (.iload 5, 2) := by decide +kernel
theorem d_N_bestOf_268 : decode prog_13_method_47_code 268 = .ok (.ishl, 1) := by decide +kernel
theorem d_N_bestOf_269 : decode prog_13_method_47_code 269 = .ok (.ior, 1) := by decide +kernel
theorem d_N_bestOf_270 : decode prog_13_method_47_code 270 = .ok (.iadd, 1) := by decide +kernel
theorem d_N_bestOf_271 : decode prog_13_method_47_code 271 = .ok (.iaload, 1) := by decide +kernel
theorem d_N_bestOf_272 : decode prog_13_method_47_code 272 = .ok (.iadd, 1) := by decide +kernel
theorem d_N_bestOf_273 : decode prog_13_method_47_code 273 = .ok (.aload_n 0, 1) := by decide +kernel
theorem d_N_bestOf_274 : decode prog_13_method_47_code 274 = .ok (.getfield 67, 3) := by decide +kernel
theorem d_N_bestOf_277 : decode prog_13_method_47_code 277 = .ok (.sipush 256, 3) := by decide +kernel
theorem d_N_bestOf_280 : decode prog_13_method_47_code 280 = .ok (.iload 4, 2) := by decide +kernel
theorem d_N_bestOf_282 : decode prog_13_method_47_code 282 = .ok (.imul, 1) := by decide +kernel
theorem d_N_bestOf_283 : decode prog_13_method_47_code 283 = .ok (.iload_n 3, 1) := by decide +kernel
theorem d_N_bestOf_284 : decode prog_13_method_47_code 284 = .ok (.iadd, 1) := by decide +kernel
theorem d_N_bestOf_285 : decode prog_13_method_47_code 285 = .ok (.iaload, 1) := by decide +kernel
theorem d_N_bestOf_286 : decode prog_13_method_47_code 286 = .ok (.if_icmp .eq 9, 3) := by decide +kernel
theorem d_N_bestOf_289 : decode prog_13_method_47_code 289 = .ok (.iinc 5 1, 3) := by decide +kernel
theorem d_N_bestOf_292 : decode prog_13_method_47_code 292 = .ok (.goto (-62), 3) := by decide +kernel
theorem d_N_bestOf_295 : decode prog_13_method_47_code 295 = .ok (.aload_n 0, 1) := by decide +kernel
theorem d_N_bestOf_296 : decode prog_13_method_47_code 296 = .ok (.getfield 64, 3) := by decide +kernel
theorem d_N_bestOf_299 : decode prog_13_method_47_code 299 = .ok (.iload 4, 2) := by decide +kernel
theorem d_N_bestOf_301 : decode prog_13_method_47_code 301 = .ok (.iload 5, 2) := by decide +kernel
theorem d_N_bestOf_303 : decode prog_13_method_47_code 303 = .ok (.iastore, 1) := by decide +kernel
theorem d_N_bestOf_304 : decode prog_13_method_47_code 304 = .ok (.iload_n 3, 1) := by decide +kernel
theorem d_N_bestOf_305 : decode prog_13_method_47_code 305 = .ok (.iconst 1, 1) := by decide +kernel
theorem d_N_bestOf_306 : decode prog_13_method_47_code 306 = .ok (.iload 5, 2) := by decide +kernel
theorem d_N_bestOf_308 : decode prog_13_method_47_code 308 = .ok (.ishl, 1) := by decide +kernel
theorem d_N_bestOf_309 : decode prog_13_method_47_code 309 = .ok (.ior, 1) := by decide +kernel
theorem d_N_bestOf_310 : decode prog_13_method_47_code 310 = .ok (.istore_n 3, 1) := by decide +kernel
theorem d_N_bestOf_311 : decode prog_13_method_47_code 311 = .ok (.iinc 4 1, 3) := by decide +kernel
theorem d_N_bestOf_314 : decode prog_13_method_47_code 314 = .ok (.goto (-96), 3) := by decide +kernel
theorem d_N_bestOf_317 : decode prog_13_method_47_code 317 = .ok (.iload_n 1, 1) := by decide +kernel
theorem d_N_bestOf_318 : decode prog_13_method_47_code 318 = .ok (.iconst (-1), 1) := by decide +kernel
theorem d_N_bestOf_319 : decode prog_13_method_47_code 319 = .ok (.if_icmp .ne 12, 3) := by decide +kernel
theorem d_N_bestOf_322 : decode prog_13_method_47_code 322 = .ok (.aload_n 0, 1) := by decide +kernel
theorem d_N_bestOf_323 : decode prog_13_method_47_code 323 = .ok (.getfield 67, 3) := by decide +kernel
theorem d_N_bestOf_326 : decode prog_13_method_47_code 326 = .ok (.iconst 0, 1) := by decide +kernel
theorem d_N_bestOf_327 : decode prog_13_method_47_code 327 = .ok (.iaload, 1) := by decide +kernel
theorem d_N_bestOf_328 : decode prog_13_method_47_code 328 = .ok (.goto 9, 3) := by decide +kernel
theorem d_N_bestOf_331 : decode prog_13_method_47_code 331 = .ok (.aload_n 0, 1) := by decide +kernel
theorem d_N_bestOf_332 : decode prog_13_method_47_code 332 = .ok (.getfield 64, 3) := by decide +kernel
theorem d_N_bestOf_335 : decode prog_13_method_47_code 335 = .ok (.iload_n 1, 1) := by decide +kernel
theorem d_N_bestOf_336 : decode prog_13_method_47_code 336 = .ok (.iaload, 1) := by decide +kernel
theorem d_N_bestOf_337 : decode prog_13_method_47_code 337 = .ok (.ireturn, 1) := by decide +kernel
def b_N_bestOf_337 (c0 c1 c2 : ra_Sp) (I : Nat → ra_K) (Z : ra_R) : ra_K := w_ir Z
def b_N_bestOf_331 (c0 c1 c2 : ra_Sp) (I : Nat → ra_K) (Z : ra_R) : ra_K := w_al 0 <| w_gr 11 20 <| w_il 1 <| w_ald <| (b_N_bestOf_337 c0 c1 c2 I Z)
def b_N_bestOf_322 (c0 c1 c2 : ra_Sp) (I : Nat → ra_K) (Z : ra_R) : ra_K := w_al 0 <| w_gr 11 21 <| w_c 0 <| w_ald <| (b_N_bestOf_337 c0 c1 c2 I Z)
def b_N_bestOf_317 (c0 c1 c2 : ra_Sp) (I : Nat → ra_K) (Z : ra_R) : ra_K := w_il 1 <| w_c (-1) <| w_b2 (fun x y => x = y) (b_N_bestOf_322 c0 c1 c2 I Z) (b_N_bestOf_331 c0 c1 c2 I Z)
def b_N_bestOf_295 (c0 c1 c2 : ra_Sp) (I : Nat → ra_K) (Z : ra_R) : ra_K := w_al 0 <| w_gr 11 20 <| w_il 4 <| w_il 5 <| w_ast <| w_il 3 <| w_c 1 <| w_il 5 <| w_i2 (fun x y => x <<< (y &&& 31)) <| w_i2 (fun x y => x ||| y) <| w_is 3 <| w_inc 4 1 <| (I 218)
def b_N_bestOf_289 (c0 c1 c2 : ra_Sp) (I : Nat → ra_K) (Z : ra_R) : ra_K := w_inc 5 1 <| (I 230)
def b_N_bestOf_239 (c0 c1 c2 : ra_Sp) (I : Nat → ra_K) (Z : ra_R) : ra_K := w_al 0 <| w_gr 11 19 <| w_c 8 <| w_il 4 <| w_i2 (fun x y => x * y) <| w_il 5 <| w_i2 (fun x y => x + y) <| w_ald <| w_al 0 <| w_gr 11 21 <| w_c 256 <| w_il 4 <| w_c 1 <| w_i2 (fun x y => x + y) <| w_i2 (fun x y => x * y) <| w_il 3 <| w_c 1 <| w_il 5 <| w_i2 (fun x y => x <<< (y &&& 31)) <| w_i2 (fun x y => x ||| y) <| w_i2 (fun x y => x + y) <| w_ald <| w_i2 (fun x y => x + y) <| w_al 0 <| w_gr 11 21 <| w_c 256 <| w_il 4 <| w_i2 (fun x y => x * y) <| w_il 3 <| w_i2 (fun x y => x + y) <| w_ald <| w_b2 (fun x y => x = y) (b_N_bestOf_295 c0 c1 c2 I Z) (b_N_bestOf_289 c0 c1 c2 I Z)
def b_N_bestOf_230 (c0 c1 c2 : ra_Sp) (I : Nat → ra_K) (Z : ra_R) : ra_K := w_il 3 <| w_il 5 <| w_cs c2 2 <| w_b1 (fun x => x = 0) (b_N_bestOf_239 c0 c1 c2 I Z) (b_N_bestOf_289 c0 c1 c2 I Z)
def b_N_bestOf_227 (c0 c1 c2 : ra_Sp) (I : Nat → ra_K) (Z : ra_R) : ra_K := w_c 0 <| w_is 5 <| (I 230)
def b_N_bestOf_218 (c0 c1 c2 : ra_Sp) (I : Nat → ra_K) (Z : ra_R) : ra_K := w_il 4 <| w_al 0 <| w_gi 11 2 <| w_b2 (fun x y => y ≤ x) (b_N_bestOf_317 c0 c1 c2 I Z) (b_N_bestOf_227 c0 c1 c2 I Z)
def b_N_bestOf_213 (c0 c1 c2 : ra_Sp) (I : Nat → ra_K) (Z : ra_R) : ra_K := w_c 0 <| w_is 3 <| w_c 0 <| w_is 4 <| (I 218)
def b_N_bestOf_207 (c0 c1 c2 : ra_Sp) (I : Nat → ra_K) (Z : ra_R) : ra_K := w_inc 3 (-1) <| (I 49)
def b_N_bestOf_201 (c0 c1 c2 : ra_Sp) (I : Nat → ra_K) (Z : ra_R) : ra_K := w_inc 4 1 <| (I 56)
def b_N_bestOf_194 (c0 c1 c2 : ra_Sp) (I : Nat → ra_K) (Z : ra_R) : ra_K := w_ast <| w_inc 5 1 <| (I 79)
def b_N_bestOf_181 (c0 c1 c2 : ra_Sp) (I : Nat → ra_K) (Z : ra_R) : ra_K := w_al 0 <| w_gr 11 21 <| w_c 256 <| w_il 3 <| w_i2 (fun x y => x * y) <| w_il 4 <| w_i2 (fun x y => x + y) <| w_ald <| (b_N_bestOf_194 c0 c1 c2 I Z)
def b_N_bestOf_176 (c0 c1 c2 : ra_Sp) (I : Nat → ra_K) (Z : ra_R) : ra_K := w_il 6 <| (b_N_bestOf_194 c0 c1 c2 I Z)
def b_N_bestOf_144 (c0 c1 c2 : ra_Sp) (I : Nat → ra_K) (Z : ra_R) : ra_K := w_is 6 <| w_al 0 <| w_gr 11 21 <| w_c 256 <| w_il 3 <| w_i2 (fun x y => x * y) <| w_il 4 <| w_i2 (fun x y => x + y) <| w_il 6 <| w_al 0 <| w_gr 11 21 <| w_c 256 <| w_il 3 <| w_i2 (fun x y => x * y) <| w_il 4 <| w_i2 (fun x y => x + y) <| w_ald <| w_b2 (fun x y => x ≤ y) (b_N_bestOf_181 c0 c1 c2 I Z) (b_N_bestOf_176 c0 c1 c2 I Z)
def b_N_bestOf_111 (c0 c1 c2 : ra_Sp) (I : Nat → ra_K) (Z : ra_R) : ra_K := w_al 0 <| w_gr 11 19 <| w_c 8 <| w_il 3 <| w_i2 (fun x y => x * y) <| w_il 5 <| w_i2 (fun x y => x + y) <| w_ald <| w_al 0 <| w_gr 11 21 <| w_c 256 <| w_il 3 <| w_c 1 <| w_i2 (fun x y => x + y) <| w_i2 (fun x y => x * y) <| w_il 4 <| w_c 1 <| w_il 5 <| w_i2 (fun x y => x <<< (y &&& 31)) <| w_i2 (fun x y => x ||| y) <| w_i2 (fun x y => x + y) <| w_ald <| w_i2 (fun x y => x + y) <| (b_N_bestOf_144 c0 c1 c2 I Z)
def b_N_bestOf_107 (c0 c1 c2 : ra_Sp) (I : Nat → ra_K) (Z : ra_R) : ra_K := w_c (-1) <| (b_N_bestOf_144 c0 c1 c2 I Z)
def b_N_bestOf_97 (c0 c1 c2 : ra_Sp) (I : Nat → ra_K) (Z : ra_R) : ra_K := w_il 4 <| w_il 5 <| w_cs c2 2 <| w_b1 (fun x => x = 0) (b_N_bestOf_111 c0 c1 c2 I Z) (b_N_bestOf_107 c0 c1 c2 I Z)
def b_N_bestOf_88 (c0 c1 c2 : ra_Sp) (I : Nat → ra_K) (Z : ra_R) : ra_K := w_il 4 <| w_cs c1 1 <| w_il 3 <| w_b2 (fun x y => x = y) (b_N_bestOf_97 c0 c1 c2 I Z) (b_N_bestOf_201 c0 c1 c2 I Z)
def b_N_bestOf_79 (c0 c1 c2 : ra_Sp) (I : Nat → ra_K) (Z : ra_R) : ra_K := w_il 5 <| w_al 0 <| w_gi 11 2 <| w_b2 (fun x y => y ≤ x) (b_N_bestOf_201 c0 c1 c2 I Z) (b_N_bestOf_88 c0 c1 c2 I Z)
def b_N_bestOf_62 (c0 c1 c2 : ra_Sp) (I : Nat → ra_K) (Z : ra_R) : ra_K := w_al 0 <| w_gr 11 21 <| w_c 256 <| w_il 3 <| w_i2 (fun x y => x * y) <| w_il 4 <| w_i2 (fun x y => x + y) <| w_c (-1) <| w_ast <| w_c 0 <| w_is 5 <| (I 79)
def b_N_bestOf_56 (c0 c1 c2 : ra_Sp) (I : Nat → ra_K) (Z : ra_R) : ra_K := w_il 4 <| w_il 2 <| w_b2 (fun x y => y < x) (b_N_bestOf_207 c0 c1 c2 I Z) (b_N_bestOf_62 c0 c1 c2 I Z)
def b_N_bestOf_53 (c0 c1 c2 : ra_Sp) (I : Nat → ra_K) (Z : ra_R) : ra_K := w_c 0 <| w_is 4 <| (I 56)
def b_N_bestOf_49 (c0 c1 c2 : ra_Sp) (I : Nat → ra_K) (Z : ra_R) : ra_K := w_il 3 <| w_b1 (fun x => x < 0) (b_N_bestOf_213 c0 c1 c2 I Z) (b_N_bestOf_53 c0 c1 c2 I Z)
def b_N_bestOf_42 (c0 c1 c2 : ra_Sp) (I : Nat → ra_K) (Z : ra_R) : ra_K := w_al 0 <| w_gi 11 2 <| w_c 1 <| w_i2 (fun x y => x - y) <| w_is 3 <| (I 49)
def b_N_bestOf_20 (c0 c1 c2 : ra_Sp) (I : Nat → ra_K) (Z : ra_R) : ra_K := w_al 0 <| w_gr 11 21 <| w_c 256 <| w_al 0 <| w_gi 11 2 <| w_i2 (fun x y => x * y) <| w_il 3 <| w_i2 (fun x y => x + y) <| w_c 0 <| w_ast <| w_inc 3 1 <| (I 15)
def b_N_bestOf_15 (c0 c1 c2 : ra_Sp) (I : Nat → ra_K) (Z : ra_R) : ra_K := w_il 3 <| w_il 2 <| w_b2 (fun x y => y < x) (b_N_bestOf_42 c0 c1 c2 I Z) (b_N_bestOf_20 c0 c1 c2 I Z)
def b_N_bestOf_0 (c0 c1 c2 : ra_Sp) (I : Nat → ra_K) (Z : ra_R) : ra_K := w_al 0 <| w_cv c0 1 11 <| w_c 1 <| w_al 0 <| w_gi 11 2 <| w_i2 (fun x y => x <<< (y &&& 31)) <| w_c 1 <| w_i2 (fun x y => x - y) <| w_is 2 <| w_c 0 <| w_is 3 <| (I 15)
theorem o_N_bestOf_337 {X : ra_X} {p : Program} {l : Launch} {e : Env} {s : State} {m : MethodId} {args : Array Value} {below : List Frame} {meth : Method} {c : Code} {Z : ra_R} {c0 c1 c2 : ra_Sp}  (h0 : ra_MOK l X mi_N_reads c0) (h1 : ra_MOK l X mi_N_ones c1) (h2 : ra_MOK l X mi_N_isIn c2) (F : ra_Fx X p rm_N_bestOf s m args c prog_13_method_47_code 7 cn_N) (hr : meth.sig.returnType = (some .int)) (hlk : meth.locks = false) {I : Nat → ra_K} (hI : ∀ t ∈ [15, 49, 56, 79, 218, 230], ra_At X p l e rm_N_bestOf s m args below meth c 7 (MQ below (ra_Qc X Z) args s 0 0 (ra_A X)) (I t) t) : ra_At X p l e rm_N_bestOf s m args below meth c 7 (MQ below (ra_Qc X Z) args s 0 0 (ra_A X)) (b_N_bestOf_337 c0 c1 c2 I Z) 337 :=
  r_ireturn F hr hlk d_N_bestOf_337
theorem o_N_bestOf_331 {X : ra_X} {p : Program} {l : Launch} {e : Env} {s : State} {m : MethodId} {args : Array Value} {below : List Frame} {meth : Method} {c : Code} {Z : ra_R} {c0 c1 c2 : ra_Sp}  (h0 : ra_MOK l X mi_N_reads c0) (h1 : ra_MOK l X mi_N_ones c1) (h2 : ra_MOK l X mi_N_isIn c2) (F : ra_Fx X p rm_N_bestOf s m args c prog_13_method_47_code 7 cn_N) (hr : meth.sig.returnType = (some .int)) (hlk : meth.locks = false) {I : Nat → ra_K} (hI : ∀ t ∈ [15, 49, 56, 79, 218, 230], ra_At X p l e rm_N_bestOf s m args below meth c 7 (MQ below (ra_Qc X Z) args s 0 0 (ra_A X)) (I t) t) : ra_At X p l e rm_N_bestOf s m args below meth c 7 (MQ below (ra_Qc X Z) args s 0 0 (ra_A X)) (b_N_bestOf_331 c0 c1 c2 I Z) 331 :=
  r_aload_n F d_N_bestOf_331 rfl <| r_getR F cg_N (j := 20) (by decide) rfl fl_N_64 d_N_bestOf_332 <| r_iload_n F d_N_bestOf_335 rfl <| r_iaload F d_N_bestOf_336 <| (o_N_bestOf_337 h0 h1 h2 F hr hlk hI)
theorem o_N_bestOf_322 {X : ra_X} {p : Program} {l : Launch} {e : Env} {s : State} {m : MethodId} {args : Array Value} {below : List Frame} {meth : Method} {c : Code} {Z : ra_R} {c0 c1 c2 : ra_Sp}  (h0 : ra_MOK l X mi_N_reads c0) (h1 : ra_MOK l X mi_N_ones c1) (h2 : ra_MOK l X mi_N_isIn c2) (F : ra_Fx X p rm_N_bestOf s m args c prog_13_method_47_code 7 cn_N) (hr : meth.sig.returnType = (some .int)) (hlk : meth.locks = false) {I : Nat → ra_K} (hI : ∀ t ∈ [15, 49, 56, 79, 218, 230], ra_At X p l e rm_N_bestOf s m args below meth c 7 (MQ below (ra_Qc X Z) args s 0 0 (ra_A X)) (I t) t) : ra_At X p l e rm_N_bestOf s m args below meth c 7 (MQ below (ra_Qc X Z) args s 0 0 (ra_A X)) (b_N_bestOf_322 c0 c1 c2 I Z) 322 :=
  r_aload_n F d_N_bestOf_322 rfl <| r_getR F cg_N (j := 21) (by decide) rfl fl_N_67 d_N_bestOf_323 <| r_iconst F d_N_bestOf_326 (by decide) <| r_iaload F d_N_bestOf_327 <| r_goto F d_N_bestOf_328 (by decide) (o_N_bestOf_337 h0 h1 h2 F hr hlk hI)
theorem o_N_bestOf_317 {X : ra_X} {p : Program} {l : Launch} {e : Env} {s : State} {m : MethodId} {args : Array Value} {below : List Frame} {meth : Method} {c : Code} {Z : ra_R} {c0 c1 c2 : ra_Sp}  (h0 : ra_MOK l X mi_N_reads c0) (h1 : ra_MOK l X mi_N_ones c1) (h2 : ra_MOK l X mi_N_isIn c2) (F : ra_Fx X p rm_N_bestOf s m args c prog_13_method_47_code 7 cn_N) (hr : meth.sig.returnType = (some .int)) (hlk : meth.locks = false) {I : Nat → ra_K} (hI : ∀ t ∈ [15, 49, 56, 79, 218, 230], ra_At X p l e rm_N_bestOf s m args below meth c 7 (MQ below (ra_Qc X Z) args s 0 0 (ra_A X)) (I t) t) : ra_At X p l e rm_N_bestOf s m args below meth c 7 (MQ below (ra_Qc X Z) args s 0 0 (ra_A X)) (b_N_bestOf_317 c0 c1 c2 I Z) 317 :=
  r_iload_n F d_N_bestOf_317 rfl <| r_iconst F d_N_bestOf_318 (by decide) <| r_icmp_ne F d_N_bestOf_319 (by decide) (o_N_bestOf_331 h0 h1 h2 F hr hlk hI) (o_N_bestOf_322 h0 h1 h2 F hr hlk hI)
theorem o_N_bestOf_295 {X : ra_X} {p : Program} {l : Launch} {e : Env} {s : State} {m : MethodId} {args : Array Value} {below : List Frame} {meth : Method} {c : Code} {Z : ra_R} {c0 c1 c2 : ra_Sp}  (h0 : ra_MOK l X mi_N_reads c0) (h1 : ra_MOK l X mi_N_ones c1) (h2 : ra_MOK l X mi_N_isIn c2) (F : ra_Fx X p rm_N_bestOf s m args c prog_13_method_47_code 7 cn_N) (hr : meth.sig.returnType = (some .int)) (hlk : meth.locks = false) {I : Nat → ra_K} (hI : ∀ t ∈ [15, 49, 56, 79, 218, 230], ra_At X p l e rm_N_bestOf s m args below meth c 7 (MQ below (ra_Qc X Z) args s 0 0 (ra_A X)) (I t) t) : ra_At X p l e rm_N_bestOf s m args below meth c 7 (MQ below (ra_Qc X Z) args s 0 0 (ra_A X)) (b_N_bestOf_295 c0 c1 c2 I Z) 295 :=
  r_aload_n F d_N_bestOf_295 rfl <| r_getR F cg_N (j := 20) (by decide) rfl fl_N_64 d_N_bestOf_296 <| r_iload F d_N_bestOf_299 <| r_iload F d_N_bestOf_301 <| r_iastore F d_N_bestOf_303 <| r_iload_n F d_N_bestOf_304 rfl <| r_iconst F d_N_bestOf_305 (by decide) <| r_iload F d_N_bestOf_306 <| r_ishl F d_N_bestOf_308 <| r_ior F d_N_bestOf_309 <| r_istore_n F d_N_bestOf_310 rfl (by decide) <| r_iinc F d_N_bestOf_311 (by decide) (by decide) <| r_goto F d_N_bestOf_314 (by decide) (hI 218 (by decide))
theorem o_N_bestOf_289 {X : ra_X} {p : Program} {l : Launch} {e : Env} {s : State} {m : MethodId} {args : Array Value} {below : List Frame} {meth : Method} {c : Code} {Z : ra_R} {c0 c1 c2 : ra_Sp}  (h0 : ra_MOK l X mi_N_reads c0) (h1 : ra_MOK l X mi_N_ones c1) (h2 : ra_MOK l X mi_N_isIn c2) (F : ra_Fx X p rm_N_bestOf s m args c prog_13_method_47_code 7 cn_N) (hr : meth.sig.returnType = (some .int)) (hlk : meth.locks = false) {I : Nat → ra_K} (hI : ∀ t ∈ [15, 49, 56, 79, 218, 230], ra_At X p l e rm_N_bestOf s m args below meth c 7 (MQ below (ra_Qc X Z) args s 0 0 (ra_A X)) (I t) t) : ra_At X p l e rm_N_bestOf s m args below meth c 7 (MQ below (ra_Qc X Z) args s 0 0 (ra_A X)) (b_N_bestOf_289 c0 c1 c2 I Z) 289 :=
  r_iinc F d_N_bestOf_289 (by decide) (by decide) <| r_goto F d_N_bestOf_292 (by decide) (hI 230 (by decide))
theorem o_N_bestOf_239 {X : ra_X} {p : Program} {l : Launch} {e : Env} {s : State} {m : MethodId} {args : Array Value} {below : List Frame} {meth : Method} {c : Code} {Z : ra_R} {c0 c1 c2 : ra_Sp}  (h0 : ra_MOK l X mi_N_reads c0) (h1 : ra_MOK l X mi_N_ones c1) (h2 : ra_MOK l X mi_N_isIn c2) (F : ra_Fx X p rm_N_bestOf s m args c prog_13_method_47_code 7 cn_N) (hr : meth.sig.returnType = (some .int)) (hlk : meth.locks = false) {I : Nat → ra_K} (hI : ∀ t ∈ [15, 49, 56, 79, 218, 230], ra_At X p l e rm_N_bestOf s m args below meth c 7 (MQ below (ra_Qc X Z) args s 0 0 (ra_A X)) (I t) t) : ra_At X p l e rm_N_bestOf s m args below meth c 7 (MQ below (ra_Qc X Z) args s 0 0 (ra_A X)) (b_N_bestOf_239 c0 c1 c2 I Z) 239 :=
  r_aload_n F d_N_bestOf_239 rfl <| r_getR F cg_N (j := 19) (by decide) rfl fl_N_61 d_N_bestOf_240 <| r_bipush F d_N_bestOf_243 (by decide) <| r_iload F d_N_bestOf_245 <| r_imul F d_N_bestOf_247 <| r_iload F d_N_bestOf_248 <| r_iadd F d_N_bestOf_250 <| r_iaload F d_N_bestOf_251 <| r_aload_n F d_N_bestOf_252 rfl <| r_getR F cg_N (j := 21) (by decide) rfl fl_N_67 d_N_bestOf_253 <| r_sipush F d_N_bestOf_256 (by decide) <| r_iload F d_N_bestOf_259 <| r_iconst F d_N_bestOf_261 (by decide) <| r_iadd F d_N_bestOf_262 <| r_imul F d_N_bestOf_263 <| r_iload_n F d_N_bestOf_264 rfl <| r_iconst F d_N_bestOf_265 (by decide) <| r_iload F d_N_bestOf_266 <| r_ishl F d_N_bestOf_268 <| r_ior F d_N_bestOf_269 <| r_iadd F d_N_bestOf_270 <| r_iaload F d_N_bestOf_271 <| r_iadd F d_N_bestOf_272 <| r_aload_n F d_N_bestOf_273 rfl <| r_getR F cg_N (j := 21) (by decide) rfl fl_N_67 d_N_bestOf_274 <| r_sipush F d_N_bestOf_277 (by decide) <| r_iload F d_N_bestOf_280 <| r_imul F d_N_bestOf_282 <| r_iload_n F d_N_bestOf_283 rfl <| r_iadd F d_N_bestOf_284 <| r_iaload F d_N_bestOf_285 <| r_icmp_eq F d_N_bestOf_286 (by decide) (o_N_bestOf_295 h0 h1 h2 F hr hlk hI) (o_N_bestOf_289 h0 h1 h2 F hr hlk hI)
theorem o_N_bestOf_230 {X : ra_X} {p : Program} {l : Launch} {e : Env} {s : State} {m : MethodId} {args : Array Value} {below : List Frame} {meth : Method} {c : Code} {Z : ra_R} {c0 c1 c2 : ra_Sp}  (h0 : ra_MOK l X mi_N_reads c0) (h1 : ra_MOK l X mi_N_ones c1) (h2 : ra_MOK l X mi_N_isIn c2) (F : ra_Fx X p rm_N_bestOf s m args c prog_13_method_47_code 7 cn_N) (hr : meth.sig.returnType = (some .int)) (hlk : meth.locks = false) {I : Nat → ra_K} (hI : ∀ t ∈ [15, 49, 56, 79, 218, 230], ra_At X p l e rm_N_bestOf s m args below meth c 7 (MQ below (ra_Qc X Z) args s 0 0 (ra_A X)) (I t) t) : ra_At X p l e rm_N_bestOf s m args below meth c 7 (MQ below (ra_Qc X Z) args s 0 0 (ra_A X)) (b_N_bestOf_230 c0 c1 c2 I Z) 230 :=
  r_iload_n F d_N_bestOf_230 rfl <| r_iload F d_N_bestOf_231 <| r_callS F h2 (co_N_isIn (by decide +kernel) (by decide +kernel)) ⟨rfl, by decide +kernel⟩ ml_N_116 st_N_isIn d_N_bestOf_233 <| r_if_ne F d_N_bestOf_236 (by decide) (o_N_bestOf_289 h0 h1 h2 F hr hlk hI) (o_N_bestOf_239 h0 h1 h2 F hr hlk hI)
theorem o_N_bestOf_227 {X : ra_X} {p : Program} {l : Launch} {e : Env} {s : State} {m : MethodId} {args : Array Value} {below : List Frame} {meth : Method} {c : Code} {Z : ra_R} {c0 c1 c2 : ra_Sp}  (h0 : ra_MOK l X mi_N_reads c0) (h1 : ra_MOK l X mi_N_ones c1) (h2 : ra_MOK l X mi_N_isIn c2) (F : ra_Fx X p rm_N_bestOf s m args c prog_13_method_47_code 7 cn_N) (hr : meth.sig.returnType = (some .int)) (hlk : meth.locks = false) {I : Nat → ra_K} (hI : ∀ t ∈ [15, 49, 56, 79, 218, 230], ra_At X p l e rm_N_bestOf s m args below meth c 7 (MQ below (ra_Qc X Z) args s 0 0 (ra_A X)) (I t) t) : ra_At X p l e rm_N_bestOf s m args below meth c 7 (MQ below (ra_Qc X Z) args s 0 0 (ra_A X)) (b_N_bestOf_227 c0 c1 c2 I Z) 227 :=
  r_iconst F d_N_bestOf_227 (by decide) <| r_istore F d_N_bestOf_228 (by decide) <| (hI 230 (by decide))
theorem o_N_bestOf_218 {X : ra_X} {p : Program} {l : Launch} {e : Env} {s : State} {m : MethodId} {args : Array Value} {below : List Frame} {meth : Method} {c : Code} {Z : ra_R} {c0 c1 c2 : ra_Sp}  (h0 : ra_MOK l X mi_N_reads c0) (h1 : ra_MOK l X mi_N_ones c1) (h2 : ra_MOK l X mi_N_isIn c2) (F : ra_Fx X p rm_N_bestOf s m args c prog_13_method_47_code 7 cn_N) (hr : meth.sig.returnType = (some .int)) (hlk : meth.locks = false) {I : Nat → ra_K} (hI : ∀ t ∈ [15, 49, 56, 79, 218, 230], ra_At X p l e rm_N_bestOf s m args below meth c 7 (MQ below (ra_Qc X Z) args s 0 0 (ra_A X)) (I t) t) : ra_At X p l e rm_N_bestOf s m args below meth c 7 (MQ below (ra_Qc X Z) args s 0 0 (ra_A X)) (b_N_bestOf_218 c0 c1 c2 I Z) 218 :=
  r_iload F d_N_bestOf_218 <| r_aload_n F d_N_bestOf_220 rfl <| r_getI F cg_N (j := 2) (by decide) rfl fl_N_109 d_N_bestOf_221 <| r_icmp_ge F d_N_bestOf_224 (by decide) (o_N_bestOf_317 h0 h1 h2 F hr hlk hI) (o_N_bestOf_227 h0 h1 h2 F hr hlk hI)
theorem o_N_bestOf_213 {X : ra_X} {p : Program} {l : Launch} {e : Env} {s : State} {m : MethodId} {args : Array Value} {below : List Frame} {meth : Method} {c : Code} {Z : ra_R} {c0 c1 c2 : ra_Sp}  (h0 : ra_MOK l X mi_N_reads c0) (h1 : ra_MOK l X mi_N_ones c1) (h2 : ra_MOK l X mi_N_isIn c2) (F : ra_Fx X p rm_N_bestOf s m args c prog_13_method_47_code 7 cn_N) (hr : meth.sig.returnType = (some .int)) (hlk : meth.locks = false) {I : Nat → ra_K} (hI : ∀ t ∈ [15, 49, 56, 79, 218, 230], ra_At X p l e rm_N_bestOf s m args below meth c 7 (MQ below (ra_Qc X Z) args s 0 0 (ra_A X)) (I t) t) : ra_At X p l e rm_N_bestOf s m args below meth c 7 (MQ below (ra_Qc X Z) args s 0 0 (ra_A X)) (b_N_bestOf_213 c0 c1 c2 I Z) 213 :=
  r_iconst F d_N_bestOf_213 (by decide) <| r_istore_n F d_N_bestOf_214 rfl (by decide) <| r_iconst F d_N_bestOf_215 (by decide) <| r_istore F d_N_bestOf_216 (by decide) <| (hI 218 (by decide))
theorem o_N_bestOf_207 {X : ra_X} {p : Program} {l : Launch} {e : Env} {s : State} {m : MethodId} {args : Array Value} {below : List Frame} {meth : Method} {c : Code} {Z : ra_R} {c0 c1 c2 : ra_Sp}  (h0 : ra_MOK l X mi_N_reads c0) (h1 : ra_MOK l X mi_N_ones c1) (h2 : ra_MOK l X mi_N_isIn c2) (F : ra_Fx X p rm_N_bestOf s m args c prog_13_method_47_code 7 cn_N) (hr : meth.sig.returnType = (some .int)) (hlk : meth.locks = false) {I : Nat → ra_K} (hI : ∀ t ∈ [15, 49, 56, 79, 218, 230], ra_At X p l e rm_N_bestOf s m args below meth c 7 (MQ below (ra_Qc X Z) args s 0 0 (ra_A X)) (I t) t) : ra_At X p l e rm_N_bestOf s m args below meth c 7 (MQ below (ra_Qc X Z) args s 0 0 (ra_A X)) (b_N_bestOf_207 c0 c1 c2 I Z) 207 :=
  r_iinc F d_N_bestOf_207 (by decide) (by decide) <| r_goto F d_N_bestOf_210 (by decide) (hI 49 (by decide))
theorem o_N_bestOf_201 {X : ra_X} {p : Program} {l : Launch} {e : Env} {s : State} {m : MethodId} {args : Array Value} {below : List Frame} {meth : Method} {c : Code} {Z : ra_R} {c0 c1 c2 : ra_Sp}  (h0 : ra_MOK l X mi_N_reads c0) (h1 : ra_MOK l X mi_N_ones c1) (h2 : ra_MOK l X mi_N_isIn c2) (F : ra_Fx X p rm_N_bestOf s m args c prog_13_method_47_code 7 cn_N) (hr : meth.sig.returnType = (some .int)) (hlk : meth.locks = false) {I : Nat → ra_K} (hI : ∀ t ∈ [15, 49, 56, 79, 218, 230], ra_At X p l e rm_N_bestOf s m args below meth c 7 (MQ below (ra_Qc X Z) args s 0 0 (ra_A X)) (I t) t) : ra_At X p l e rm_N_bestOf s m args below meth c 7 (MQ below (ra_Qc X Z) args s 0 0 (ra_A X)) (b_N_bestOf_201 c0 c1 c2 I Z) 201 :=
  r_iinc F d_N_bestOf_201 (by decide) (by decide) <| r_goto F d_N_bestOf_204 (by decide) (hI 56 (by decide))
theorem o_N_bestOf_194 {X : ra_X} {p : Program} {l : Launch} {e : Env} {s : State} {m : MethodId} {args : Array Value} {below : List Frame} {meth : Method} {c : Code} {Z : ra_R} {c0 c1 c2 : ra_Sp}  (h0 : ra_MOK l X mi_N_reads c0) (h1 : ra_MOK l X mi_N_ones c1) (h2 : ra_MOK l X mi_N_isIn c2) (F : ra_Fx X p rm_N_bestOf s m args c prog_13_method_47_code 7 cn_N) (hr : meth.sig.returnType = (some .int)) (hlk : meth.locks = false) {I : Nat → ra_K} (hI : ∀ t ∈ [15, 49, 56, 79, 218, 230], ra_At X p l e rm_N_bestOf s m args below meth c 7 (MQ below (ra_Qc X Z) args s 0 0 (ra_A X)) (I t) t) : ra_At X p l e rm_N_bestOf s m args below meth c 7 (MQ below (ra_Qc X Z) args s 0 0 (ra_A X)) (b_N_bestOf_194 c0 c1 c2 I Z) 194 :=
  r_iastore F d_N_bestOf_194 <| r_iinc F d_N_bestOf_195 (by decide) (by decide) <| r_goto F d_N_bestOf_198 (by decide) (hI 79 (by decide))
theorem o_N_bestOf_181 {X : ra_X} {p : Program} {l : Launch} {e : Env} {s : State} {m : MethodId} {args : Array Value} {below : List Frame} {meth : Method} {c : Code} {Z : ra_R} {c0 c1 c2 : ra_Sp}  (h0 : ra_MOK l X mi_N_reads c0) (h1 : ra_MOK l X mi_N_ones c1) (h2 : ra_MOK l X mi_N_isIn c2) (F : ra_Fx X p rm_N_bestOf s m args c prog_13_method_47_code 7 cn_N) (hr : meth.sig.returnType = (some .int)) (hlk : meth.locks = false) {I : Nat → ra_K} (hI : ∀ t ∈ [15, 49, 56, 79, 218, 230], ra_At X p l e rm_N_bestOf s m args below meth c 7 (MQ below (ra_Qc X Z) args s 0 0 (ra_A X)) (I t) t) : ra_At X p l e rm_N_bestOf s m args below meth c 7 (MQ below (ra_Qc X Z) args s 0 0 (ra_A X)) (b_N_bestOf_181 c0 c1 c2 I Z) 181 :=
  r_aload_n F d_N_bestOf_181 rfl <| r_getR F cg_N (j := 21) (by decide) rfl fl_N_67 d_N_bestOf_182 <| r_sipush F d_N_bestOf_185 (by decide) <| r_iload_n F d_N_bestOf_188 rfl <| r_imul F d_N_bestOf_189 <| r_iload F d_N_bestOf_190 <| r_iadd F d_N_bestOf_192 <| r_iaload F d_N_bestOf_193 <| (o_N_bestOf_194 h0 h1 h2 F hr hlk hI)
theorem o_N_bestOf_176 {X : ra_X} {p : Program} {l : Launch} {e : Env} {s : State} {m : MethodId} {args : Array Value} {below : List Frame} {meth : Method} {c : Code} {Z : ra_R} {c0 c1 c2 : ra_Sp}  (h0 : ra_MOK l X mi_N_reads c0) (h1 : ra_MOK l X mi_N_ones c1) (h2 : ra_MOK l X mi_N_isIn c2) (F : ra_Fx X p rm_N_bestOf s m args c prog_13_method_47_code 7 cn_N) (hr : meth.sig.returnType = (some .int)) (hlk : meth.locks = false) {I : Nat → ra_K} (hI : ∀ t ∈ [15, 49, 56, 79, 218, 230], ra_At X p l e rm_N_bestOf s m args below meth c 7 (MQ below (ra_Qc X Z) args s 0 0 (ra_A X)) (I t) t) : ra_At X p l e rm_N_bestOf s m args below meth c 7 (MQ below (ra_Qc X Z) args s 0 0 (ra_A X)) (b_N_bestOf_176 c0 c1 c2 I Z) 176 :=
  r_iload F d_N_bestOf_176 <| r_goto F d_N_bestOf_178 (by decide) (o_N_bestOf_194 h0 h1 h2 F hr hlk hI)
theorem o_N_bestOf_144 {X : ra_X} {p : Program} {l : Launch} {e : Env} {s : State} {m : MethodId} {args : Array Value} {below : List Frame} {meth : Method} {c : Code} {Z : ra_R} {c0 c1 c2 : ra_Sp}  (h0 : ra_MOK l X mi_N_reads c0) (h1 : ra_MOK l X mi_N_ones c1) (h2 : ra_MOK l X mi_N_isIn c2) (F : ra_Fx X p rm_N_bestOf s m args c prog_13_method_47_code 7 cn_N) (hr : meth.sig.returnType = (some .int)) (hlk : meth.locks = false) {I : Nat → ra_K} (hI : ∀ t ∈ [15, 49, 56, 79, 218, 230], ra_At X p l e rm_N_bestOf s m args below meth c 7 (MQ below (ra_Qc X Z) args s 0 0 (ra_A X)) (I t) t) : ra_At X p l e rm_N_bestOf s m args below meth c 7 (MQ below (ra_Qc X Z) args s 0 0 (ra_A X)) (b_N_bestOf_144 c0 c1 c2 I Z) 144 :=
  r_istore F d_N_bestOf_144 (by decide) <| r_aload_n F d_N_bestOf_146 rfl <| r_getR F cg_N (j := 21) (by decide) rfl fl_N_67 d_N_bestOf_147 <| r_sipush F d_N_bestOf_150 (by decide) <| r_iload_n F d_N_bestOf_153 rfl <| r_imul F d_N_bestOf_154 <| r_iload F d_N_bestOf_155 <| r_iadd F d_N_bestOf_157 <| r_iload F d_N_bestOf_158 <| r_aload_n F d_N_bestOf_160 rfl <| r_getR F cg_N (j := 21) (by decide) rfl fl_N_67 d_N_bestOf_161 <| r_sipush F d_N_bestOf_164 (by decide) <| r_iload_n F d_N_bestOf_167 rfl <| r_imul F d_N_bestOf_168 <| r_iload F d_N_bestOf_169 <| r_iadd F d_N_bestOf_171 <| r_iaload F d_N_bestOf_172 <| r_icmp_le F d_N_bestOf_173 (by decide) (o_N_bestOf_181 h0 h1 h2 F hr hlk hI) (o_N_bestOf_176 h0 h1 h2 F hr hlk hI)
theorem o_N_bestOf_111 {X : ra_X} {p : Program} {l : Launch} {e : Env} {s : State} {m : MethodId} {args : Array Value} {below : List Frame} {meth : Method} {c : Code} {Z : ra_R} {c0 c1 c2 : ra_Sp}  (h0 : ra_MOK l X mi_N_reads c0) (h1 : ra_MOK l X mi_N_ones c1) (h2 : ra_MOK l X mi_N_isIn c2) (F : ra_Fx X p rm_N_bestOf s m args c prog_13_method_47_code 7 cn_N) (hr : meth.sig.returnType = (some .int)) (hlk : meth.locks = false) {I : Nat → ra_K} (hI : ∀ t ∈ [15, 49, 56, 79, 218, 230], ra_At X p l e rm_N_bestOf s m args below meth c 7 (MQ below (ra_Qc X Z) args s 0 0 (ra_A X)) (I t) t) : ra_At X p l e rm_N_bestOf s m args below meth c 7 (MQ below (ra_Qc X Z) args s 0 0 (ra_A X)) (b_N_bestOf_111 c0 c1 c2 I Z) 111 :=
  r_aload_n F d_N_bestOf_111 rfl <| r_getR F cg_N (j := 19) (by decide) rfl fl_N_61 d_N_bestOf_112 <| r_bipush F d_N_bestOf_115 (by decide) <| r_iload_n F d_N_bestOf_117 rfl <| r_imul F d_N_bestOf_118 <| r_iload F d_N_bestOf_119 <| r_iadd F d_N_bestOf_121 <| r_iaload F d_N_bestOf_122 <| r_aload_n F d_N_bestOf_123 rfl <| r_getR F cg_N (j := 21) (by decide) rfl fl_N_67 d_N_bestOf_124 <| r_sipush F d_N_bestOf_127 (by decide) <| r_iload_n F d_N_bestOf_130 rfl <| r_iconst F d_N_bestOf_131 (by decide) <| r_iadd F d_N_bestOf_132 <| r_imul F d_N_bestOf_133 <| r_iload F d_N_bestOf_134 <| r_iconst F d_N_bestOf_136 (by decide) <| r_iload F d_N_bestOf_137 <| r_ishl F d_N_bestOf_139 <| r_ior F d_N_bestOf_140 <| r_iadd F d_N_bestOf_141 <| r_iaload F d_N_bestOf_142 <| r_iadd F d_N_bestOf_143 <| (o_N_bestOf_144 h0 h1 h2 F hr hlk hI)
theorem o_N_bestOf_107 {X : ra_X} {p : Program} {l : Launch} {e : Env} {s : State} {m : MethodId} {args : Array Value} {below : List Frame} {meth : Method} {c : Code} {Z : ra_R} {c0 c1 c2 : ra_Sp}  (h0 : ra_MOK l X mi_N_reads c0) (h1 : ra_MOK l X mi_N_ones c1) (h2 : ra_MOK l X mi_N_isIn c2) (F : ra_Fx X p rm_N_bestOf s m args c prog_13_method_47_code 7 cn_N) (hr : meth.sig.returnType = (some .int)) (hlk : meth.locks = false) {I : Nat → ra_K} (hI : ∀ t ∈ [15, 49, 56, 79, 218, 230], ra_At X p l e rm_N_bestOf s m args below meth c 7 (MQ below (ra_Qc X Z) args s 0 0 (ra_A X)) (I t) t) : ra_At X p l e rm_N_bestOf s m args below meth c 7 (MQ below (ra_Qc X Z) args s 0 0 (ra_A X)) (b_N_bestOf_107 c0 c1 c2 I Z) 107 :=
  r_iconst F d_N_bestOf_107 (by decide) <| r_goto F d_N_bestOf_108 (by decide) (o_N_bestOf_144 h0 h1 h2 F hr hlk hI)
theorem o_N_bestOf_97 {X : ra_X} {p : Program} {l : Launch} {e : Env} {s : State} {m : MethodId} {args : Array Value} {below : List Frame} {meth : Method} {c : Code} {Z : ra_R} {c0 c1 c2 : ra_Sp}  (h0 : ra_MOK l X mi_N_reads c0) (h1 : ra_MOK l X mi_N_ones c1) (h2 : ra_MOK l X mi_N_isIn c2) (F : ra_Fx X p rm_N_bestOf s m args c prog_13_method_47_code 7 cn_N) (hr : meth.sig.returnType = (some .int)) (hlk : meth.locks = false) {I : Nat → ra_K} (hI : ∀ t ∈ [15, 49, 56, 79, 218, 230], ra_At X p l e rm_N_bestOf s m args below meth c 7 (MQ below (ra_Qc X Z) args s 0 0 (ra_A X)) (I t) t) : ra_At X p l e rm_N_bestOf s m args below meth c 7 (MQ below (ra_Qc X Z) args s 0 0 (ra_A X)) (b_N_bestOf_97 c0 c1 c2 I Z) 97 :=
  r_iload F d_N_bestOf_97 <| r_iload F d_N_bestOf_99 <| r_callS F h2 (co_N_isIn (by decide +kernel) (by decide +kernel)) ⟨rfl, by decide +kernel⟩ ml_N_116 st_N_isIn d_N_bestOf_101 <| r_if_eq F d_N_bestOf_104 (by decide) (o_N_bestOf_111 h0 h1 h2 F hr hlk hI) (o_N_bestOf_107 h0 h1 h2 F hr hlk hI)
theorem o_N_bestOf_88 {X : ra_X} {p : Program} {l : Launch} {e : Env} {s : State} {m : MethodId} {args : Array Value} {below : List Frame} {meth : Method} {c : Code} {Z : ra_R} {c0 c1 c2 : ra_Sp}  (h0 : ra_MOK l X mi_N_reads c0) (h1 : ra_MOK l X mi_N_ones c1) (h2 : ra_MOK l X mi_N_isIn c2) (F : ra_Fx X p rm_N_bestOf s m args c prog_13_method_47_code 7 cn_N) (hr : meth.sig.returnType = (some .int)) (hlk : meth.locks = false) {I : Nat → ra_K} (hI : ∀ t ∈ [15, 49, 56, 79, 218, 230], ra_At X p l e rm_N_bestOf s m args below meth c 7 (MQ below (ra_Qc X Z) args s 0 0 (ra_A X)) (I t) t) : ra_At X p l e rm_N_bestOf s m args below meth c 7 (MQ below (ra_Qc X Z) args s 0 0 (ra_A X)) (b_N_bestOf_88 c0 c1 c2 I Z) 88 :=
  r_iload F d_N_bestOf_88 <| r_callS F h1 (co_N_ones (by decide +kernel) (by decide +kernel)) ⟨rfl, by decide +kernel⟩ ml_N_182 st_N_ones d_N_bestOf_90 <| r_iload_n F d_N_bestOf_93 rfl <| r_icmp_ne F d_N_bestOf_94 (by decide) (o_N_bestOf_201 h0 h1 h2 F hr hlk hI) (o_N_bestOf_97 h0 h1 h2 F hr hlk hI)
theorem o_N_bestOf_79 {X : ra_X} {p : Program} {l : Launch} {e : Env} {s : State} {m : MethodId} {args : Array Value} {below : List Frame} {meth : Method} {c : Code} {Z : ra_R} {c0 c1 c2 : ra_Sp}  (h0 : ra_MOK l X mi_N_reads c0) (h1 : ra_MOK l X mi_N_ones c1) (h2 : ra_MOK l X mi_N_isIn c2) (F : ra_Fx X p rm_N_bestOf s m args c prog_13_method_47_code 7 cn_N) (hr : meth.sig.returnType = (some .int)) (hlk : meth.locks = false) {I : Nat → ra_K} (hI : ∀ t ∈ [15, 49, 56, 79, 218, 230], ra_At X p l e rm_N_bestOf s m args below meth c 7 (MQ below (ra_Qc X Z) args s 0 0 (ra_A X)) (I t) t) : ra_At X p l e rm_N_bestOf s m args below meth c 7 (MQ below (ra_Qc X Z) args s 0 0 (ra_A X)) (b_N_bestOf_79 c0 c1 c2 I Z) 79 :=
  r_iload F d_N_bestOf_79 <| r_aload_n F d_N_bestOf_81 rfl <| r_getI F cg_N (j := 2) (by decide) rfl fl_N_109 d_N_bestOf_82 <| r_icmp_ge F d_N_bestOf_85 (by decide) (o_N_bestOf_201 h0 h1 h2 F hr hlk hI) (o_N_bestOf_88 h0 h1 h2 F hr hlk hI)
theorem o_N_bestOf_62 {X : ra_X} {p : Program} {l : Launch} {e : Env} {s : State} {m : MethodId} {args : Array Value} {below : List Frame} {meth : Method} {c : Code} {Z : ra_R} {c0 c1 c2 : ra_Sp}  (h0 : ra_MOK l X mi_N_reads c0) (h1 : ra_MOK l X mi_N_ones c1) (h2 : ra_MOK l X mi_N_isIn c2) (F : ra_Fx X p rm_N_bestOf s m args c prog_13_method_47_code 7 cn_N) (hr : meth.sig.returnType = (some .int)) (hlk : meth.locks = false) {I : Nat → ra_K} (hI : ∀ t ∈ [15, 49, 56, 79, 218, 230], ra_At X p l e rm_N_bestOf s m args below meth c 7 (MQ below (ra_Qc X Z) args s 0 0 (ra_A X)) (I t) t) : ra_At X p l e rm_N_bestOf s m args below meth c 7 (MQ below (ra_Qc X Z) args s 0 0 (ra_A X)) (b_N_bestOf_62 c0 c1 c2 I Z) 62 :=
  r_aload_n F d_N_bestOf_62 rfl <| r_getR F cg_N (j := 21) (by decide) rfl fl_N_67 d_N_bestOf_63 <| r_sipush F d_N_bestOf_66 (by decide) <| r_iload_n F d_N_bestOf_69 rfl <| r_imul F d_N_bestOf_70 <| r_iload F d_N_bestOf_71 <| r_iadd F d_N_bestOf_73 <| r_iconst F d_N_bestOf_74 (by decide) <| r_iastore F d_N_bestOf_75 <| r_iconst F d_N_bestOf_76 (by decide) <| r_istore F d_N_bestOf_77 (by decide) <| (hI 79 (by decide))
theorem o_N_bestOf_56 {X : ra_X} {p : Program} {l : Launch} {e : Env} {s : State} {m : MethodId} {args : Array Value} {below : List Frame} {meth : Method} {c : Code} {Z : ra_R} {c0 c1 c2 : ra_Sp}  (h0 : ra_MOK l X mi_N_reads c0) (h1 : ra_MOK l X mi_N_ones c1) (h2 : ra_MOK l X mi_N_isIn c2) (F : ra_Fx X p rm_N_bestOf s m args c prog_13_method_47_code 7 cn_N) (hr : meth.sig.returnType = (some .int)) (hlk : meth.locks = false) {I : Nat → ra_K} (hI : ∀ t ∈ [15, 49, 56, 79, 218, 230], ra_At X p l e rm_N_bestOf s m args below meth c 7 (MQ below (ra_Qc X Z) args s 0 0 (ra_A X)) (I t) t) : ra_At X p l e rm_N_bestOf s m args below meth c 7 (MQ below (ra_Qc X Z) args s 0 0 (ra_A X)) (b_N_bestOf_56 c0 c1 c2 I Z) 56 :=
  r_iload F d_N_bestOf_56 <| r_iload_n F d_N_bestOf_58 rfl <| r_icmp_gt F d_N_bestOf_59 (by decide) (o_N_bestOf_207 h0 h1 h2 F hr hlk hI) (o_N_bestOf_62 h0 h1 h2 F hr hlk hI)
theorem o_N_bestOf_53 {X : ra_X} {p : Program} {l : Launch} {e : Env} {s : State} {m : MethodId} {args : Array Value} {below : List Frame} {meth : Method} {c : Code} {Z : ra_R} {c0 c1 c2 : ra_Sp}  (h0 : ra_MOK l X mi_N_reads c0) (h1 : ra_MOK l X mi_N_ones c1) (h2 : ra_MOK l X mi_N_isIn c2) (F : ra_Fx X p rm_N_bestOf s m args c prog_13_method_47_code 7 cn_N) (hr : meth.sig.returnType = (some .int)) (hlk : meth.locks = false) {I : Nat → ra_K} (hI : ∀ t ∈ [15, 49, 56, 79, 218, 230], ra_At X p l e rm_N_bestOf s m args below meth c 7 (MQ below (ra_Qc X Z) args s 0 0 (ra_A X)) (I t) t) : ra_At X p l e rm_N_bestOf s m args below meth c 7 (MQ below (ra_Qc X Z) args s 0 0 (ra_A X)) (b_N_bestOf_53 c0 c1 c2 I Z) 53 :=
  r_iconst F d_N_bestOf_53 (by decide) <| r_istore F d_N_bestOf_54 (by decide) <| (hI 56 (by decide))
theorem o_N_bestOf_49 {X : ra_X} {p : Program} {l : Launch} {e : Env} {s : State} {m : MethodId} {args : Array Value} {below : List Frame} {meth : Method} {c : Code} {Z : ra_R} {c0 c1 c2 : ra_Sp}  (h0 : ra_MOK l X mi_N_reads c0) (h1 : ra_MOK l X mi_N_ones c1) (h2 : ra_MOK l X mi_N_isIn c2) (F : ra_Fx X p rm_N_bestOf s m args c prog_13_method_47_code 7 cn_N) (hr : meth.sig.returnType = (some .int)) (hlk : meth.locks = false) {I : Nat → ra_K} (hI : ∀ t ∈ [15, 49, 56, 79, 218, 230], ra_At X p l e rm_N_bestOf s m args below meth c 7 (MQ below (ra_Qc X Z) args s 0 0 (ra_A X)) (I t) t) : ra_At X p l e rm_N_bestOf s m args below meth c 7 (MQ below (ra_Qc X Z) args s 0 0 (ra_A X)) (b_N_bestOf_49 c0 c1 c2 I Z) 49 :=
  r_iload_n F d_N_bestOf_49 rfl <| r_if_lt F d_N_bestOf_50 (by decide) (o_N_bestOf_213 h0 h1 h2 F hr hlk hI) (o_N_bestOf_53 h0 h1 h2 F hr hlk hI)
theorem o_N_bestOf_42 {X : ra_X} {p : Program} {l : Launch} {e : Env} {s : State} {m : MethodId} {args : Array Value} {below : List Frame} {meth : Method} {c : Code} {Z : ra_R} {c0 c1 c2 : ra_Sp}  (h0 : ra_MOK l X mi_N_reads c0) (h1 : ra_MOK l X mi_N_ones c1) (h2 : ra_MOK l X mi_N_isIn c2) (F : ra_Fx X p rm_N_bestOf s m args c prog_13_method_47_code 7 cn_N) (hr : meth.sig.returnType = (some .int)) (hlk : meth.locks = false) {I : Nat → ra_K} (hI : ∀ t ∈ [15, 49, 56, 79, 218, 230], ra_At X p l e rm_N_bestOf s m args below meth c 7 (MQ below (ra_Qc X Z) args s 0 0 (ra_A X)) (I t) t) : ra_At X p l e rm_N_bestOf s m args below meth c 7 (MQ below (ra_Qc X Z) args s 0 0 (ra_A X)) (b_N_bestOf_42 c0 c1 c2 I Z) 42 :=
  r_aload_n F d_N_bestOf_42 rfl <| r_getI F cg_N (j := 2) (by decide) rfl fl_N_109 d_N_bestOf_43 <| r_iconst F d_N_bestOf_46 (by decide) <| r_isub F d_N_bestOf_47 <| r_istore_n F d_N_bestOf_48 rfl (by decide) <| (hI 49 (by decide))
theorem o_N_bestOf_20 {X : ra_X} {p : Program} {l : Launch} {e : Env} {s : State} {m : MethodId} {args : Array Value} {below : List Frame} {meth : Method} {c : Code} {Z : ra_R} {c0 c1 c2 : ra_Sp}  (h0 : ra_MOK l X mi_N_reads c0) (h1 : ra_MOK l X mi_N_ones c1) (h2 : ra_MOK l X mi_N_isIn c2) (F : ra_Fx X p rm_N_bestOf s m args c prog_13_method_47_code 7 cn_N) (hr : meth.sig.returnType = (some .int)) (hlk : meth.locks = false) {I : Nat → ra_K} (hI : ∀ t ∈ [15, 49, 56, 79, 218, 230], ra_At X p l e rm_N_bestOf s m args below meth c 7 (MQ below (ra_Qc X Z) args s 0 0 (ra_A X)) (I t) t) : ra_At X p l e rm_N_bestOf s m args below meth c 7 (MQ below (ra_Qc X Z) args s 0 0 (ra_A X)) (b_N_bestOf_20 c0 c1 c2 I Z) 20 :=
  r_aload_n F d_N_bestOf_20 rfl <| r_getR F cg_N (j := 21) (by decide) rfl fl_N_67 d_N_bestOf_21 <| r_sipush F d_N_bestOf_24 (by decide) <| r_aload_n F d_N_bestOf_27 rfl <| r_getI F cg_N (j := 2) (by decide) rfl fl_N_109 d_N_bestOf_28 <| r_imul F d_N_bestOf_31 <| r_iload_n F d_N_bestOf_32 rfl <| r_iadd F d_N_bestOf_33 <| r_iconst F d_N_bestOf_34 (by decide) <| r_iastore F d_N_bestOf_35 <| r_iinc F d_N_bestOf_36 (by decide) (by decide) <| r_goto F d_N_bestOf_39 (by decide) (hI 15 (by decide))
theorem o_N_bestOf_15 {X : ra_X} {p : Program} {l : Launch} {e : Env} {s : State} {m : MethodId} {args : Array Value} {below : List Frame} {meth : Method} {c : Code} {Z : ra_R} {c0 c1 c2 : ra_Sp}  (h0 : ra_MOK l X mi_N_reads c0) (h1 : ra_MOK l X mi_N_ones c1) (h2 : ra_MOK l X mi_N_isIn c2) (F : ra_Fx X p rm_N_bestOf s m args c prog_13_method_47_code 7 cn_N) (hr : meth.sig.returnType = (some .int)) (hlk : meth.locks = false) {I : Nat → ra_K} (hI : ∀ t ∈ [15, 49, 56, 79, 218, 230], ra_At X p l e rm_N_bestOf s m args below meth c 7 (MQ below (ra_Qc X Z) args s 0 0 (ra_A X)) (I t) t) : ra_At X p l e rm_N_bestOf s m args below meth c 7 (MQ below (ra_Qc X Z) args s 0 0 (ra_A X)) (b_N_bestOf_15 c0 c1 c2 I Z) 15 :=
  r_iload_n F d_N_bestOf_15 rfl <| r_iload_n F d_N_bestOf_16 rfl <| r_icmp_gt F d_N_bestOf_17 (by decide) (o_N_bestOf_42 h0 h1 h2 F hr hlk hI) (o_N_bestOf_20 h0 h1 h2 F hr hlk hI)
theorem o_N_bestOf_0 {X : ra_X} {p : Program} {l : Launch} {e : Env} {s : State} {m : MethodId} {args : Array Value} {below : List Frame} {meth : Method} {c : Code} {Z : ra_R} {c0 c1 c2 : ra_Sp}  (h0 : ra_MOK l X mi_N_reads c0) (h1 : ra_MOK l X mi_N_ones c1) (h2 : ra_MOK l X mi_N_isIn c2) (F : ra_Fx X p rm_N_bestOf s m args c prog_13_method_47_code 7 cn_N) (hr : meth.sig.returnType = (some .int)) (hlk : meth.locks = false) {I : Nat → ra_K} (hI : ∀ t ∈ [15, 49, 56, 79, 218, 230], ra_At X p l e rm_N_bestOf s m args below meth c 7 (MQ below (ra_Qc X Z) args s 0 0 (ra_A X)) (I t) t) : ra_At X p l e rm_N_bestOf s m args below meth c 7 (MQ below (ra_Qc X Z) args s 0 0 (ra_A X)) (b_N_bestOf_0 c0 c1 c2 I Z) 0 :=
  r_aload_n F d_N_bestOf_0 rfl <| r_callV F h0 (co_N_reads (by decide +kernel) (by decide +kernel)) ⟨rfl, by decide +kernel⟩ ⟨rfl, by decide⟩ ml_N_134 im_N_reads se_N_reads d_N_bestOf_1 <| r_iconst F d_N_bestOf_4 (by decide) <| r_aload_n F d_N_bestOf_5 rfl <| r_getI F cg_N (j := 2) (by decide) rfl fl_N_109 d_N_bestOf_6 <| r_ishl F d_N_bestOf_9 <| r_iconst F d_N_bestOf_10 (by decide) <| r_isub F d_N_bestOf_11 <| r_istore_n F d_N_bestOf_12 rfl (by decide) <| r_iconst F d_N_bestOf_13 (by decide) <| r_istore_n F d_N_bestOf_14 rfl (by decide) <| (hI 15 (by decide))
theorem g_N_bestOf {l : Launch} {X : ra_X} {c0 c1 c2 : ra_Sp}  (h0 : ra_MOK l X mi_N_reads c0) (h1 : ra_MOK l X mi_N_ones c1) (h2 : ra_MOK l X mi_N_isIn c2) (sp : ra_Sp) (I : ra_R → List Value → ra_St → Nat → ra_M → ra_K) (ve : ∀ as σ Z, ra_c1 as = true → as.length = 2 → sp as σ Z → b_N_bestOf_0 c0 c1 c2 (ra_I (I Z as σ)) Z (ra_pad 7 as) [] σ) (v15 : ∀ as σ Z, sp as σ Z → ∀ μ L S σ1, I Z as σ 15 μ L S σ1 → b_N_bestOf_15 c0 c1 c2 (ra_J (I Z as σ) μ) Z L S σ1) (v49 : ∀ as σ Z, sp as σ Z → ∀ μ L S σ1, I Z as σ 49 μ L S σ1 → b_N_bestOf_49 c0 c1 c2 (ra_J (I Z as σ) μ) Z L S σ1) (v56 : ∀ as σ Z, sp as σ Z → ∀ μ L S σ1, I Z as σ 56 μ L S σ1 → b_N_bestOf_56 c0 c1 c2 (ra_J (I Z as σ) μ) Z L S σ1) (v79 : ∀ as σ Z, sp as σ Z → ∀ μ L S σ1, I Z as σ 79 μ L S σ1 → b_N_bestOf_79 c0 c1 c2 (ra_J (I Z as σ) μ) Z L S σ1) (v218 : ∀ as σ Z, sp as σ Z → ∀ μ L S σ1, I Z as σ 218 μ L S σ1 → b_N_bestOf_218 c0 c1 c2 (ra_J (I Z as σ) μ) Z L S σ1) (v230 : ∀ as σ Z, sp as σ Z → ∀ μ L S σ1, I Z as σ 230 μ L S σ1 → b_N_bestOf_230 c0 c1 c2 (ra_J (I Z as σ) μ) Z L S σ1) : ra_MOK l X mi_N_bestOf sp := by
  refine ra_enter (k := fun Z as σ => b_N_bestOf_0 c0 c1 c2 (ra_I (I Z as σ)) Z) cn_N rfl (by decide +kernel) ⟨by decide +kernel, by decide +kernel⟩ (by decide +kernel) ?_ ve
  intro p e s m args below meth c Z as σ hsp F hr hlk
  refine o_N_bestOf_0 h0 h1 h2 F hr hlk (ra_cuts (b := fun t J => if t = 15 then b_N_bestOf_15 c0 c1 c2 J Z else if t = 49 then b_N_bestOf_49 c0 c1 c2 J Z else if t = 56 then b_N_bestOf_56 c0 c1 c2 J Z else if t = 79 then b_N_bestOf_79 c0 c1 c2 J Z else if t = 218 then b_N_bestOf_218 c0 c1 c2 J Z else if t = 230 then b_N_bestOf_230 c0 c1 c2 J Z else fun _ _ _ => False) ?_ ?_)
  · intro t ht J hJ
    simp only [List.mem_cons, List.not_mem_nil, or_false] at ht
    rcases ht with rfl | rfl | rfl | rfl | rfl | rfl
    · exact o_N_bestOf_15 h0 h1 h2 F hr hlk hJ
    · exact o_N_bestOf_49 h0 h1 h2 F hr hlk hJ
    · exact o_N_bestOf_56 h0 h1 h2 F hr hlk hJ
    · exact o_N_bestOf_79 h0 h1 h2 F hr hlk hJ
    · exact o_N_bestOf_218 h0 h1 h2 F hr hlk hJ
    · exact o_N_bestOf_230 h0 h1 h2 F hr hlk hJ
  · intro t ht μ L S σ1 hI
    simp only [List.mem_cons, List.not_mem_nil, or_false] at ht
    rcases ht with rfl | rfl | rfl | rfl | rfl | rfl
    · exact v15 as σ Z hsp μ L S σ1 hI
    · exact v49 as σ Z hsp μ L S σ1 hI
    · exact v56 as σ Z hsp μ L S σ1 hI
    · exact v79 as σ Z hsp μ L S σ1 hI
    · exact v218 as σ Z hsp μ L S σ1 hI
    · exact v230 as σ Z hsp μ L S σ1 hI

theorem d_N_best_0 : decode prog_13_method_48_code 0 = .ok (.iload_n 1, 1) := by decide +kernel
theorem d_N_best_1 : decode prog_13_method_48_code 1 = .ok (.iconst (-1), 1) := by decide +kernel
theorem d_N_best_2 : decode prog_13_method_48_code 2 = .ok (.if_icmp .eq 11, 3) := by decide +kernel
theorem d_N_best_5 : decode prog_13_method_48_code 5 = .ok (.aload_n 0, 1) := by decide +kernel
theorem d_N_best_6 : decode prog_13_method_48_code 6 = .ok (.iload_n 1, 1) := by decide +kernel
theorem d_N_best_7 : decode prog_13_method_48_code 7 = .ok (.invokevirtual 140, 3) := by decide +kernel
theorem d_N_best_10 : decode prog_13_method_48_code 10 = .ok (.ifCond .eq 11, 3) := by decide +kernel
theorem d_N_best_13 : decode prog_13_method_48_code 13 = .ok (.aload_n 0, 1) := by decide +kernel
theorem d_N_best_14 : decode prog_13_method_48_code 14 = .ok (.iload_n 1, 1) := by decide +kernel
theorem d_N_best_15 : decode prog_13_method_48_code 15 = .ok (.invokevirtual 200, 3) := by decide +kernel
theorem d_N_best_18 : decode prog_13_method_48_code 18 = .ok (.goto 5, 3) := by decide +kernel
theorem d_N_best_21 : decode prog_13_method_48_code 21 = .ok (.bipush (-2), 2) := by decide +kernel
theorem d_N_best_23 : decode prog_13_method_48_code 23 = .ok (.ireturn, 1) := by decide +kernel
def b_N_best_23 (c0 c1 : ra_Sp) (Z : ra_R) : ra_K := w_ir Z
def b_N_best_21 (c0 c1 : ra_Sp) (Z : ra_R) : ra_K := w_c (-2) <| (b_N_best_23 c0 c1 Z)
def b_N_best_13 (c0 c1 : ra_Sp) (Z : ra_R) : ra_K := w_al 0 <| w_il 1 <| w_cv c1 2 11 <| (b_N_best_23 c0 c1 Z)
def b_N_best_5 (c0 c1 : ra_Sp) (Z : ra_R) : ra_K := w_al 0 <| w_il 1 <| w_cv c0 2 11 <| w_b1 (fun x => x = 0) (b_N_best_21 c0 c1 Z) (b_N_best_13 c0 c1 Z)
def b_N_best_0 (c0 c1 : ra_Sp) (Z : ra_R) : ra_K := w_il 1 <| w_c (-1) <| w_b2 (fun x y => x = y) (b_N_best_13 c0 c1 Z) (b_N_best_5 c0 c1 Z)
theorem o_N_best_23 {X : ra_X} {p : Program} {l : Launch} {e : Env} {s : State} {m : MethodId} {args : Array Value} {below : List Frame} {meth : Method} {c : Code} {Z : ra_R} {c0 c1 : ra_Sp}  (h0 : ra_MOK l X mi_N_isHouse c0) (h1 : ra_MOK l X mi_N_bestOf c1) (F : ra_Fx X p rm_N_best s m args c prog_13_method_48_code 2 cn_N) (hr : meth.sig.returnType = (some .int)) (hlk : meth.locks = false) : ra_At X p l e rm_N_best s m args below meth c 2 (MQ below (ra_Qc X Z) args s 0 0 (ra_A X)) (b_N_best_23 c0 c1 Z) 23 :=
  r_ireturn F hr hlk d_N_best_23
theorem o_N_best_21 {X : ra_X} {p : Program} {l : Launch} {e : Env} {s : State} {m : MethodId} {args : Array Value} {below : List Frame} {meth : Method} {c : Code} {Z : ra_R} {c0 c1 : ra_Sp}  (h0 : ra_MOK l X mi_N_isHouse c0) (h1 : ra_MOK l X mi_N_bestOf c1) (F : ra_Fx X p rm_N_best s m args c prog_13_method_48_code 2 cn_N) (hr : meth.sig.returnType = (some .int)) (hlk : meth.locks = false) : ra_At X p l e rm_N_best s m args below meth c 2 (MQ below (ra_Qc X Z) args s 0 0 (ra_A X)) (b_N_best_21 c0 c1 Z) 21 :=
  r_bipush F d_N_best_21 (by decide) <| (o_N_best_23 h0 h1 F hr hlk)
theorem o_N_best_13 {X : ra_X} {p : Program} {l : Launch} {e : Env} {s : State} {m : MethodId} {args : Array Value} {below : List Frame} {meth : Method} {c : Code} {Z : ra_R} {c0 c1 : ra_Sp}  (h0 : ra_MOK l X mi_N_isHouse c0) (h1 : ra_MOK l X mi_N_bestOf c1) (F : ra_Fx X p rm_N_best s m args c prog_13_method_48_code 2 cn_N) (hr : meth.sig.returnType = (some .int)) (hlk : meth.locks = false) : ra_At X p l e rm_N_best s m args below meth c 2 (MQ below (ra_Qc X Z) args s 0 0 (ra_A X)) (b_N_best_13 c0 c1 Z) 13 :=
  r_aload_n F d_N_best_13 rfl <| r_iload_n F d_N_best_14 rfl <| r_callV F h1 (co_N_bestOf (by decide +kernel) (by decide +kernel)) ⟨rfl, by decide +kernel⟩ ⟨rfl, by decide⟩ ml_N_200 im_N_bestOf se_N_bestOf d_N_best_15 <| r_goto F d_N_best_18 (by decide) (o_N_best_23 h0 h1 F hr hlk)
theorem o_N_best_5 {X : ra_X} {p : Program} {l : Launch} {e : Env} {s : State} {m : MethodId} {args : Array Value} {below : List Frame} {meth : Method} {c : Code} {Z : ra_R} {c0 c1 : ra_Sp}  (h0 : ra_MOK l X mi_N_isHouse c0) (h1 : ra_MOK l X mi_N_bestOf c1) (F : ra_Fx X p rm_N_best s m args c prog_13_method_48_code 2 cn_N) (hr : meth.sig.returnType = (some .int)) (hlk : meth.locks = false) : ra_At X p l e rm_N_best s m args below meth c 2 (MQ below (ra_Qc X Z) args s 0 0 (ra_A X)) (b_N_best_5 c0 c1 Z) 5 :=
  r_aload_n F d_N_best_5 rfl <| r_iload_n F d_N_best_6 rfl <| r_callV F h0 (co_N_isHouse (by decide +kernel) (by decide +kernel)) ⟨rfl, by decide +kernel⟩ ⟨rfl, by decide⟩ ml_N_140 im_N_isHouse se_N_isHouse d_N_best_7 <| r_if_eq F d_N_best_10 (by decide) (o_N_best_21 h0 h1 F hr hlk) (o_N_best_13 h0 h1 F hr hlk)
theorem o_N_best_0 {X : ra_X} {p : Program} {l : Launch} {e : Env} {s : State} {m : MethodId} {args : Array Value} {below : List Frame} {meth : Method} {c : Code} {Z : ra_R} {c0 c1 : ra_Sp}  (h0 : ra_MOK l X mi_N_isHouse c0) (h1 : ra_MOK l X mi_N_bestOf c1) (F : ra_Fx X p rm_N_best s m args c prog_13_method_48_code 2 cn_N) (hr : meth.sig.returnType = (some .int)) (hlk : meth.locks = false) : ra_At X p l e rm_N_best s m args below meth c 2 (MQ below (ra_Qc X Z) args s 0 0 (ra_A X)) (b_N_best_0 c0 c1 Z) 0 :=
  r_iload_n F d_N_best_0 rfl <| r_iconst F d_N_best_1 (by decide) <| r_icmp_eq F d_N_best_2 (by decide) (o_N_best_13 h0 h1 F hr hlk) (o_N_best_5 h0 h1 F hr hlk)
theorem g_N_best {l : Launch} {X : ra_X} {c0 c1 : ra_Sp}  (h0 : ra_MOK l X mi_N_isHouse c0) (h1 : ra_MOK l X mi_N_bestOf c1) (sp : ra_Sp) (ve : ∀ as σ Z, ra_c1 as = true → as.length = 2 → sp as σ Z → b_N_best_0 c0 c1 Z (ra_pad 2 as) [] σ) : ra_MOK l X mi_N_best sp := by
  refine ra_enter (k := fun Z as σ => b_N_best_0 c0 c1 Z) cn_N rfl (by decide +kernel) ⟨by decide +kernel, by decide +kernel⟩ (by decide +kernel) ?_ ve
  intro p e s m args below meth c Z as σ hsp F hr hlk
  exact o_N_best_0 h0 h1 F hr hlk

theorem d_N_fact_0 : decode prog_13_method_49_code 0 = .ok (.iload_n 1, 1) := by decide +kernel
theorem d_N_fact_1 : decode prog_13_method_49_code 1 = .ok (.invokestatic 188, 3) := by decide +kernel
theorem d_N_fact_4 : decode prog_13_method_49_code 4 = .ok (.ifCond .eq 19, 3) := by decide +kernel
theorem d_N_fact_7 : decode prog_13_method_49_code 7 = .ok (.iload_n 2, 1) := by decide +kernel
theorem d_N_fact_8 : decode prog_13_method_49_code 8 = .ok (.invokestatic 188, 3) := by decide +kernel
theorem d_N_fact_11 : decode prog_13_method_49_code 11 = .ok (.ifCond .eq 12, 3) := by decide +kernel
theorem d_N_fact_14 : decode prog_13_method_49_code 14 = .ok (.iload_n 3, 1) := by decide +kernel
theorem d_N_fact_15 : decode prog_13_method_49_code 15 = .ok (.iconst 0, 1) := by decide +kernel
theorem d_N_fact_16 : decode prog_13_method_49_code 16 = .ok (.iconst 1, 1) := by decide +kernel
theorem d_N_fact_17 : decode prog_13_method_49_code 17 = .ok (.invokestatic 101, 3) := by decide +kernel
theorem d_N_fact_20 : decode prog_13_method_49_code 20 = .ok (.ifCond .ne 6, 3) := by decide +kernel
theorem d_N_fact_23 : decode prog_13_method_49_code 23 = .ok (.bipush (-2), 2) := by decide +kernel
theorem d_N_fact_25 : decode prog_13_method_49_code 25 = .ok (.ireturn, 1) := by decide +kernel
theorem d_N_fact_26 : decode prog_13_method_49_code 26 = .ok (.aload_n 0, 1) := by decide +kernel
theorem d_N_fact_27 : decode prog_13_method_49_code 27 = .ok (.getfield 203, 3) := by decide +kernel
theorem d_N_fact_30 : decode prog_13_method_49_code 30 = .ok (.bipush 12, 2) := by decide +kernel
theorem d_N_fact_32 : decode prog_13_method_49_code 32 = .ok (.if_icmp .ne 6, 3) := by decide +kernel
theorem d_N_fact_35 : decode prog_13_method_49_code 35 = .ok (.bipush (-4), 2) := by decide +kernel
theorem d_N_fact_37 : decode prog_13_method_49_code 37 = .ok (.ireturn, 1) := by decide +kernel
theorem d_N_fact_38 : decode prog_13_method_49_code 38 = .ok (.aload_n 0, 1) := by decide +kernel
theorem d_N_fact_39 : decode prog_13_method_49_code 39 = .ok (.getfield 70, 3) := by decide +kernel
theorem d_N_fact_42 : decode prog_13_method_49_code 42 = .ok (.aload_n 0, 1) := by decide +kernel
theorem d_N_fact_43 : decode prog_13_method_49_code 43 = .ok (.getfield 203, 3) := by decide +kernel
theorem d_N_fact_46 : decode prog_13_method_49_code 46 = .ok (.iload_n 1, 1) := by decide +kernel
theorem d_N_fact_47 : decode prog_13_method_49_code 47 = .ok (.iastore, 1) := by decide +kernel
theorem d_N_fact_48 : decode prog_13_method_49_code 48 = .ok (.aload_n 0, 1) := by decide +kernel
theorem d_N_fact_49 : decode prog_13_method_49_code 49 = .ok (.getfield 73, 3) := by decide +kernel
theorem d_N_fact_52 : decode prog_13_method_49_code 52 = .ok (.aload_n 0, 1) := by decide +kernel
theorem d_N_fact_53 : decode prog_13_method_49_code 53 = .ok (.getfield 203, 3) := by decide +kernel
theorem d_N_fact_56 : decode prog_13_method_49_code 56 = .ok (.iload_n 2, 1) := by decide +kernel
theorem d_N_fact_57 : decode prog_13_method_49_code 57 = .ok (.iastore, 1) := by decide +kernel
theorem d_N_fact_58 : decode prog_13_method_49_code 58 = .ok (.aload_n 0, 1) := by decide +kernel
theorem d_N_fact_59 : decode prog_13_method_49_code 59 = .ok (.getfield 76, 3) := by decide +kernel
theorem d_N_fact_62 : decode prog_13_method_49_code 62 = .ok (.aload_n 0, 1) := by decide +kernel
theorem d_N_fact_63 : decode prog_13_method_49_code 63 = .ok (.getfield 203, 3) := by decide +kernel
theorem d_N_fact_66 : decode prog_13_method_49_code 66 = .ok (.iload_n 3, 1) := by decide +kernel
theorem d_N_fact_67 : decode prog_13_method_49_code 67 = .ok (.iastore, 1) := by decide +kernel
theorem d_N_fact_68 : decode prog_13_method_49_code 68 = .ok (.aload_n 0, 1) := by decide +kernel
theorem d_N_fact_69 : decode prog_13_method_49_code 69 = .ok (.dup, 1) := by decide +kernel
theorem d_N_fact_70 : decode prog_13_method_49_code 70 = .ok (.getfield 203, 3) := by decide +kernel
theorem d_N_fact_73 : decode prog_13_method_49_code 73 = .ok (.iconst 1, 1) := by decide +kernel
theorem d_N_fact_74 : decode prog_13_method_49_code 74 = .ok (.iadd, 1) := by decide +kernel
theorem d_N_fact_75 : decode prog_13_method_49_code 75 = .ok (.putfield 203, 3) := by decide +kernel
theorem d_N_fact_78 : decode prog_13_method_49_code 78 = .ok (.aload_n 0, 1) := by decide +kernel
theorem d_N_fact_79 : decode prog_13_method_49_code 79 = .ok (.getfield 203, 3) := by decide +kernel
theorem d_N_fact_82 : decode prog_13_method_49_code 82 = .ok (.ireturn, 1) := by decide +kernel
def b_N_fact_38 (c0 c1 : ra_Sp) (Z : ra_R) : ra_K := w_al 0 <| w_gr 11 23 <| w_al 0 <| w_gi 11 22 <| w_il 1 <| w_ast <| w_al 0 <| w_gr 11 24 <| w_al 0 <| w_gi 11 22 <| w_il 2 <| w_ast <| w_al 0 <| w_gr 11 25 <| w_al 0 <| w_gi 11 22 <| w_il 3 <| w_ast <| w_al 0 <| w_dup <| w_gi 11 22 <| w_c 1 <| w_i2 (fun x y => x + y) <| w_pi 11 22 <| w_al 0 <| w_gi 11 22 <| w_ir Z
def b_N_fact_35 (c0 c1 : ra_Sp) (Z : ra_R) : ra_K := w_c (-4) <| w_ir Z
def b_N_fact_26 (c0 c1 : ra_Sp) (Z : ra_R) : ra_K := w_al 0 <| w_gi 11 22 <| w_c 12 <| w_b2 (fun x y => x = y) (b_N_fact_35 c0 c1 Z) (b_N_fact_38 c0 c1 Z)
def b_N_fact_23 (c0 c1 : ra_Sp) (Z : ra_R) : ra_K := w_c (-2) <| w_ir Z
def b_N_fact_14 (c0 c1 : ra_Sp) (Z : ra_R) : ra_K := w_il 3 <| w_c 0 <| w_c 1 <| w_cs c1 3 <| w_b1 (fun x => x = 0) (b_N_fact_23 c0 c1 Z) (b_N_fact_26 c0 c1 Z)
def b_N_fact_7 (c0 c1 : ra_Sp) (Z : ra_R) : ra_K := w_il 2 <| w_cs c0 1 <| w_b1 (fun x => x = 0) (b_N_fact_23 c0 c1 Z) (b_N_fact_14 c0 c1 Z)
def b_N_fact_0 (c0 c1 : ra_Sp) (Z : ra_R) : ra_K := w_il 1 <| w_cs c0 1 <| w_b1 (fun x => x = 0) (b_N_fact_23 c0 c1 Z) (b_N_fact_7 c0 c1 Z)
theorem o_N_fact_38 {X : ra_X} {p : Program} {l : Launch} {e : Env} {s : State} {m : MethodId} {args : Array Value} {below : List Frame} {meth : Method} {c : Code} {Z : ra_R} {c0 c1 : ra_Sp}  (h0 : ra_MOK l X mi_N_isEight c0) (h1 : ra_MOK l X mi_N_in c1) (F : ra_Fx X p rm_N_fact s m args c prog_13_method_49_code 4 cn_N) (hr : meth.sig.returnType = (some .int)) (hlk : meth.locks = false) : ra_At X p l e rm_N_fact s m args below meth c 4 (MQ below (ra_Qc X Z) args s 0 0 (ra_A X)) (b_N_fact_38 c0 c1 Z) 38 :=
  r_aload_n F d_N_fact_38 rfl <| r_getR F cg_N (j := 23) (by decide) rfl fl_N_70 d_N_fact_39 <| r_aload_n F d_N_fact_42 rfl <| r_getI F cg_N (j := 22) (by decide) rfl fl_N_203 d_N_fact_43 <| r_iload_n F d_N_fact_46 rfl <| r_iastore F d_N_fact_47 <| r_aload_n F d_N_fact_48 rfl <| r_getR F cg_N (j := 24) (by decide) rfl fl_N_73 d_N_fact_49 <| r_aload_n F d_N_fact_52 rfl <| r_getI F cg_N (j := 22) (by decide) rfl fl_N_203 d_N_fact_53 <| r_iload_n F d_N_fact_56 rfl <| r_iastore F d_N_fact_57 <| r_aload_n F d_N_fact_58 rfl <| r_getR F cg_N (j := 25) (by decide) rfl fl_N_76 d_N_fact_59 <| r_aload_n F d_N_fact_62 rfl <| r_getI F cg_N (j := 22) (by decide) rfl fl_N_203 d_N_fact_63 <| r_iload_n F d_N_fact_66 rfl <| r_iastore F d_N_fact_67 <| r_aload_n F d_N_fact_68 rfl <| r_dup F d_N_fact_69 <| r_getI F cg_N (j := 22) (by decide) rfl fl_N_203 d_N_fact_70 <| r_iconst F d_N_fact_73 (by decide) <| r_iadd F d_N_fact_74 <| r_putI F cg_N (j := 22) (by decide) rfl rfl rfl fl_N_203 d_N_fact_75 <| r_aload_n F d_N_fact_78 rfl <| r_getI F cg_N (j := 22) (by decide) rfl fl_N_203 d_N_fact_79 <| r_ireturn F hr hlk d_N_fact_82
theorem o_N_fact_35 {X : ra_X} {p : Program} {l : Launch} {e : Env} {s : State} {m : MethodId} {args : Array Value} {below : List Frame} {meth : Method} {c : Code} {Z : ra_R} {c0 c1 : ra_Sp}  (h0 : ra_MOK l X mi_N_isEight c0) (h1 : ra_MOK l X mi_N_in c1) (F : ra_Fx X p rm_N_fact s m args c prog_13_method_49_code 4 cn_N) (hr : meth.sig.returnType = (some .int)) (hlk : meth.locks = false) : ra_At X p l e rm_N_fact s m args below meth c 4 (MQ below (ra_Qc X Z) args s 0 0 (ra_A X)) (b_N_fact_35 c0 c1 Z) 35 :=
  r_bipush F d_N_fact_35 (by decide) <| r_ireturn F hr hlk d_N_fact_37
theorem o_N_fact_26 {X : ra_X} {p : Program} {l : Launch} {e : Env} {s : State} {m : MethodId} {args : Array Value} {below : List Frame} {meth : Method} {c : Code} {Z : ra_R} {c0 c1 : ra_Sp}  (h0 : ra_MOK l X mi_N_isEight c0) (h1 : ra_MOK l X mi_N_in c1) (F : ra_Fx X p rm_N_fact s m args c prog_13_method_49_code 4 cn_N) (hr : meth.sig.returnType = (some .int)) (hlk : meth.locks = false) : ra_At X p l e rm_N_fact s m args below meth c 4 (MQ below (ra_Qc X Z) args s 0 0 (ra_A X)) (b_N_fact_26 c0 c1 Z) 26 :=
  r_aload_n F d_N_fact_26 rfl <| r_getI F cg_N (j := 22) (by decide) rfl fl_N_203 d_N_fact_27 <| r_bipush F d_N_fact_30 (by decide) <| r_icmp_ne F d_N_fact_32 (by decide) (o_N_fact_38 h0 h1 F hr hlk) (o_N_fact_35 h0 h1 F hr hlk)
theorem o_N_fact_23 {X : ra_X} {p : Program} {l : Launch} {e : Env} {s : State} {m : MethodId} {args : Array Value} {below : List Frame} {meth : Method} {c : Code} {Z : ra_R} {c0 c1 : ra_Sp}  (h0 : ra_MOK l X mi_N_isEight c0) (h1 : ra_MOK l X mi_N_in c1) (F : ra_Fx X p rm_N_fact s m args c prog_13_method_49_code 4 cn_N) (hr : meth.sig.returnType = (some .int)) (hlk : meth.locks = false) : ra_At X p l e rm_N_fact s m args below meth c 4 (MQ below (ra_Qc X Z) args s 0 0 (ra_A X)) (b_N_fact_23 c0 c1 Z) 23 :=
  r_bipush F d_N_fact_23 (by decide) <| r_ireturn F hr hlk d_N_fact_25
theorem o_N_fact_14 {X : ra_X} {p : Program} {l : Launch} {e : Env} {s : State} {m : MethodId} {args : Array Value} {below : List Frame} {meth : Method} {c : Code} {Z : ra_R} {c0 c1 : ra_Sp}  (h0 : ra_MOK l X mi_N_isEight c0) (h1 : ra_MOK l X mi_N_in c1) (F : ra_Fx X p rm_N_fact s m args c prog_13_method_49_code 4 cn_N) (hr : meth.sig.returnType = (some .int)) (hlk : meth.locks = false) : ra_At X p l e rm_N_fact s m args below meth c 4 (MQ below (ra_Qc X Z) args s 0 0 (ra_A X)) (b_N_fact_14 c0 c1 Z) 14 :=
  r_iload_n F d_N_fact_14 rfl <| r_iconst F d_N_fact_15 (by decide) <| r_iconst F d_N_fact_16 (by decide) <| r_callS F h1 (co_N_in (by decide +kernel) (by decide +kernel)) ⟨rfl, by decide +kernel⟩ ml_N_101 st_N_in d_N_fact_17 <| r_if_ne F d_N_fact_20 (by decide) (o_N_fact_26 h0 h1 F hr hlk) (o_N_fact_23 h0 h1 F hr hlk)
theorem o_N_fact_7 {X : ra_X} {p : Program} {l : Launch} {e : Env} {s : State} {m : MethodId} {args : Array Value} {below : List Frame} {meth : Method} {c : Code} {Z : ra_R} {c0 c1 : ra_Sp}  (h0 : ra_MOK l X mi_N_isEight c0) (h1 : ra_MOK l X mi_N_in c1) (F : ra_Fx X p rm_N_fact s m args c prog_13_method_49_code 4 cn_N) (hr : meth.sig.returnType = (some .int)) (hlk : meth.locks = false) : ra_At X p l e rm_N_fact s m args below meth c 4 (MQ below (ra_Qc X Z) args s 0 0 (ra_A X)) (b_N_fact_7 c0 c1 Z) 7 :=
  r_iload_n F d_N_fact_7 rfl <| r_callS F h0 (co_N_isEight (by decide +kernel) (by decide +kernel)) ⟨rfl, by decide +kernel⟩ ml_N_188 st_N_isEight d_N_fact_8 <| r_if_eq F d_N_fact_11 (by decide) (o_N_fact_23 h0 h1 F hr hlk) (o_N_fact_14 h0 h1 F hr hlk)
theorem o_N_fact_0 {X : ra_X} {p : Program} {l : Launch} {e : Env} {s : State} {m : MethodId} {args : Array Value} {below : List Frame} {meth : Method} {c : Code} {Z : ra_R} {c0 c1 : ra_Sp}  (h0 : ra_MOK l X mi_N_isEight c0) (h1 : ra_MOK l X mi_N_in c1) (F : ra_Fx X p rm_N_fact s m args c prog_13_method_49_code 4 cn_N) (hr : meth.sig.returnType = (some .int)) (hlk : meth.locks = false) : ra_At X p l e rm_N_fact s m args below meth c 4 (MQ below (ra_Qc X Z) args s 0 0 (ra_A X)) (b_N_fact_0 c0 c1 Z) 0 :=
  r_iload_n F d_N_fact_0 rfl <| r_callS F h0 (co_N_isEight (by decide +kernel) (by decide +kernel)) ⟨rfl, by decide +kernel⟩ ml_N_188 st_N_isEight d_N_fact_1 <| r_if_eq F d_N_fact_4 (by decide) (o_N_fact_23 h0 h1 F hr hlk) (o_N_fact_7 h0 h1 F hr hlk)
theorem g_N_fact {l : Launch} {X : ra_X} {c0 c1 : ra_Sp}  (h0 : ra_MOK l X mi_N_isEight c0) (h1 : ra_MOK l X mi_N_in c1) (sp : ra_Sp) (ve : ∀ as σ Z, ra_c1 as = true → as.length = 4 → sp as σ Z → b_N_fact_0 c0 c1 Z (ra_pad 4 as) [] σ) : ra_MOK l X mi_N_fact sp := by
  refine ra_enter (k := fun Z as σ => b_N_fact_0 c0 c1 Z) cn_N rfl (by decide +kernel) ⟨by decide +kernel, by decide +kernel⟩ (by decide +kernel) ?_ ve
  intro p e s m args below meth c Z as σ hsp F hr hlk
  exact o_N_fact_0 h0 h1 F hr hlk
