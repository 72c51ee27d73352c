theorem d_N_lotsNow_0 : decode prog_13_method_12_code 0 = .ok (.aload_n 0, 1) := by decide +kernel
theorem d_N_lotsNow_1 : decode prog_13_method_12_code 1 = .ok (.invokevirtual 120, 3) := by decide +kernel
theorem d_N_lotsNow_4 : decode prog_13_method_12_code 4 = .ok (.istore_n 1, 1) := by decide +kernel
theorem d_N_lotsNow_5 : decode prog_13_method_12_code 5 = .ok (.aload_n 0, 1) := by decide +kernel
theorem d_N_lotsNow_6 : decode prog_13_method_12_code 6 = .ok (.invokevirtual 124, 3) := by decide +kernel
theorem d_N_lotsNow_9 : decode prog_13_method_12_code 9 = .ok (.istore_n 2, 1) := by decide +kernel
theorem d_N_lotsNow_10 : decode prog_13_method_12_code 10 = .ok (.iconst 0, 1) := by decide +kernel
theorem d_N_lotsNow_11 : decode prog_13_method_12_code 11 = .ok (.istore_n 3, 1) := by decide +kernel
theorem d_N_lotsNow_12 : decode prog_13_method_12_code 12 = .ok (.iload_n 3, 1) := by decide +kernel
theorem d_N_lotsNow_13 : decode prog_13_method_12_code 13 = .ok (.aload_n 0, 1) := by decide +kernel
theorem d_N_lotsNow_14 : decode prog_13_method_12_code 14 = .ok (.getfield 109, 3) := by decide +kernel
theorem d_N_lotsNow_17 : decode prog_13_method_12_code 17 = .ok (.if_icmp .ge 37, 3) := by decide +kernel
theorem d_N_lotsNow_20 : decode prog_13_method_12_code 20 = .ok (.iload_n 2, 1) := by decide +kernel
theorem d_N_lotsNow_21 : decode prog_13_method_12_code 21 = .ok (.iconst (-1), 1) := by decide +kernel
theorem d_N_lotsNow_22 : decode prog_13_method_12_code 22 = .ok (.if_icmp .eq 32, 3) := by decide +kernel
theorem d_N_lotsNow_25 : decode prog_13_method_12_code 25 = .ok (.aload_n 0, 1) := by decide +kernel
theorem d_N_lotsNow_26 : decode prog_13_method_12_code 26 = .ok (.getfield 25, 3) := by decide +kernel
theorem d_N_lotsNow_29 : decode prog_13_method_12_code 29 = .ok (.iload_n 3, 1) := by decide +kernel
theorem d_N_lotsNow_30 : decode prog_13_method_12_code 30 = .ok (.iload_n 3, 1) := by decide +kernel
theorem d_N_lotsNow_31 : decode prog_13_method_12_code 31 = .ok (.iconst 1, 1) := by decide +kernel
theorem d_N_lotsNow_32 : decode prog_13_method_12_code 32 = .ok (.iadd, 1) := by decide +kernel
theorem d_N_lotsNow_33 : decode prog_13_method_12_code 33 = .ok (.aload_n 0, 1) := by decide +kernel
theorem d_N_lotsNow_34 : decode prog_13_method_12_code 34 = .ok (.getfield 109, 3) := by decide +kernel
theorem d_N_lotsNow_37 : decode prog_13_method_12_code 37 = .ok (.if_icmp .ne 7, 3) := by decide +kernel
theorem d_N_lotsNow_40 : decode prog_13_method_12_code 40 = .ok (.iconst 0, 1) := by decide +kernel
theorem d_N_lotsNow_41 : decode prog_13_method_12_code 41 = .ok (.goto 6, 3) := by decide +kernel
theorem d_N_lotsNow_44 : decode prog_13_method_12_code 44 = .ok (.iload_n 3, 1) := by decide +kernel
theorem d_N_lotsNow_45 : decode prog_13_method_12_code 45 = .ok (.iconst 1, 1) := by decide +kernel
theorem d_N_lotsNow_46 : decode prog_13_method_12_code 46 = .ok (.iadd, 1) := by decide +kernel
theorem d_N_lotsNow_47 : decode prog_13_method_12_code 47 = .ok (.iastore, 1) := by decide +kernel
theorem d_N_lotsNow_48 : decode prog_13_method_12_code 48 = .ok (.iinc 3 1, 3) := by decide +kernel
theorem d_N_lotsNow_51 : decode prog_13_method_12_code 51 = .ok (.goto (-39), 3) := by decide +kernel
theorem d_N_lotsNow_54 : decode prog_13_method_12_code 54 = .ok (.iload_n 2, 1) := by decide +kernel
theorem d_N_lotsNow_55 : decode prog_13_method_12_code 55 = .ok (.ireturn, 1) := by decide +kernel
def b_N_lotsNow_54 (c0 c1 : ra_Sp) (I : Nat → ra_K) (Z : ra_R) : ra_K := w_il 2 <| w_ir Z
def b_N_lotsNow_47 (c0 c1 : ra_Sp) (I : Nat → ra_K) (Z : ra_R) : ra_K := w_ast <| w_inc 3 1 <| (I 12)
def b_N_lotsNow_44 (c0 c1 : ra_Sp) (I : Nat → ra_K) (Z : ra_R) : ra_K := w_il 3 <| w_c 1 <| w_i2 (fun x y => x + y) <| (b_N_lotsNow_47 c0 c1 I Z)
def b_N_lotsNow_40 (c0 c1 : ra_Sp) (I : Nat → ra_K) (Z : ra_R) : ra_K := w_c 0 <| (b_N_lotsNow_47 c0 c1 I Z)
def b_N_lotsNow_25 (c0 c1 : ra_Sp) (I : Nat → ra_K) (Z : ra_R) : ra_K := w_al 0 <| w_gr 11 6 <| w_il 3 <| w_il 3 <| w_c 1 <| w_i2 (fun x y => x + y) <| w_al 0 <| w_gi 11 2 <| w_b2 (fun x y => x = y) (b_N_lotsNow_40 c0 c1 I Z) (b_N_lotsNow_44 c0 c1 I Z)
def b_N_lotsNow_20 (c0 c1 : ra_Sp) (I : Nat → ra_K) (Z : ra_R) : ra_K := w_il 2 <| w_c (-1) <| w_b2 (fun x y => x = y) (b_N_lotsNow_54 c0 c1 I Z) (b_N_lotsNow_25 c0 c1 I Z)
def b_N_lotsNow_12 (c0 c1 : ra_Sp) (I : Nat → ra_K) (Z : ra_R) : ra_K := w_il 3 <| w_al 0 <| w_gi 11 2 <| w_b2 (fun x y => y ≤ x) (b_N_lotsNow_54 c0 c1 I Z) (b_N_lotsNow_20 c0 c1 I Z)
def b_N_lotsNow_0 (c0 c1 : ra_Sp) (I : Nat → ra_K) (Z : ra_R) : ra_K := w_al 0 <| w_cv c0 1 11 <| w_is 1 <| w_al 0 <| w_cv c1 1 11 <| w_is 2 <| w_c 0 <| w_is 3 <| (I 12)
theorem o_N_lotsNow_54 {X : ra_X} {p : Program} {l : Launch} {e : Env} {s : State} {m : MethodId} {args : Array Value} {below : List Frame} {meth : Method} {c : Code} {Z : ra_R} {c0 c1 : ra_Sp}  (h0 : ra_MOK l X mi_N_readsHouses c0) (h1 : ra_MOK l X mi_N_readsLots c1) (F : ra_Fx X p rm_N_lotsNow s m args c prog_13_method_12_code 4 cn_N) (hr : meth.sig.returnType = (some .int)) (hlk : meth.locks = false) {I : Nat → ra_K} (hI : ∀ t ∈ [12], ra_At X p l e rm_N_lotsNow s m args below meth c 4 (MQ below (ra_Qc X Z) args s 0 0 (ra_A X)) (I t) t) : ra_At X p l e rm_N_lotsNow s m args below meth c 4 (MQ below (ra_Qc X Z) args s 0 0 (ra_A X)) (b_N_lotsNow_54 c0 c1 I Z) 54 :=
  r_iload_n F d_N_lotsNow_54 rfl <| r_ireturn F hr hlk d_N_lotsNow_55
theorem o_N_lotsNow_47 {X : ra_X} {p : Program} {l : Launch} {e : Env} {s : State} {m : MethodId} {args : Array Value} {below : List Frame} {meth : Method} {c : Code} {Z : ra_R} {c0 c1 : ra_Sp}  (h0 : ra_MOK l X mi_N_readsHouses c0) (h1 : ra_MOK l X mi_N_readsLots c1) (F : ra_Fx X p rm_N_lotsNow s m args c prog_13_method_12_code 4 cn_N) (hr : meth.sig.returnType = (some .int)) (hlk : meth.locks = false) {I : Nat → ra_K} (hI : ∀ t ∈ [12], ra_At X p l e rm_N_lotsNow s m args below meth c 4 (MQ below (ra_Qc X Z) args s 0 0 (ra_A X)) (I t) t) : ra_At X p l e rm_N_lotsNow s m args below meth c 4 (MQ below (ra_Qc X Z) args s 0 0 (ra_A X)) (b_N_lotsNow_47 c0 c1 I Z) 47 :=
  r_iastore F d_N_lotsNow_47 <| r_iinc F d_N_lotsNow_48 (by decide) (by decide) <| r_goto F d_N_lotsNow_51 (by decide) (hI 12 (by decide))
theorem o_N_lotsNow_44 {X : ra_X} {p : Program} {l : Launch} {e : Env} {s : State} {m : MethodId} {args : Array Value} {below : List Frame} {meth : Method} {c : Code} {Z : ra_R} {c0 c1 : ra_Sp}  (h0 : ra_MOK l X mi_N_readsHouses c0) (h1 : ra_MOK l X mi_N_readsLots c1) (F : ra_Fx X p rm_N_lotsNow s m args c prog_13_method_12_code 4 cn_N) (hr : meth.sig.returnType = (some .int)) (hlk : meth.locks = false) {I : Nat → ra_K} (hI : ∀ t ∈ [12], ra_At X p l e rm_N_lotsNow s m args below meth c 4 (MQ below (ra_Qc X Z) args s 0 0 (ra_A X)) (I t) t) : ra_At X p l e rm_N_lotsNow s m args below meth c 4 (MQ below (ra_Qc X Z) args s 0 0 (ra_A X)) (b_N_lotsNow_44 c0 c1 I Z) 44 :=
  r_iload_n F d_N_lotsNow_44 rfl <| r_iconst F d_N_lotsNow_45 (by decide) <| r_iadd F d_N_lotsNow_46 <| (o_N_lotsNow_47 h0 h1 F hr hlk hI)
theorem o_N_lotsNow_40 {X : ra_X} {p : Program} {l : Launch} {e : Env} {s : State} {m : MethodId} {args : Array Value} {below : List Frame} {meth : Method} {c : Code} {Z : ra_R} {c0 c1 : ra_Sp}  (h0 : ra_MOK l X mi_N_readsHouses c0) (h1 : ra_MOK l X mi_N_readsLots c1) (F : ra_Fx X p rm_N_lotsNow s m args c prog_13_method_12_code 4 cn_N) (hr : meth.sig.returnType = (some .int)) (hlk : meth.locks = false) {I : Nat → ra_K} (hI : ∀ t ∈ [12], ra_At X p l e rm_N_lotsNow s m args below meth c 4 (MQ below (ra_Qc X Z) args s 0 0 (ra_A X)) (I t) t) : ra_At X p l e rm_N_lotsNow s m args below meth c 4 (MQ below (ra_Qc X Z) args s 0 0 (ra_A X)) (b_N_lotsNow_40 c0 c1 I Z) 40 :=
  r_iconst F d_N_lotsNow_40 (by decide) <| r_goto F d_N_lotsNow_41 (by decide) (o_N_lotsNow_47 h0 h1 F hr hlk hI)
theorem o_N_lotsNow_25 {X : ra_X} {p : Program} {l : Launch} {e : Env} {s : State} {m : MethodId} {args : Array Value} {below : List Frame} {meth : Method} {c : Code} {Z : ra_R} {c0 c1 : ra_Sp}  (h0 : ra_MOK l X mi_N_readsHouses c0) (h1 : ra_MOK l X mi_N_readsLots c1) (F : ra_Fx X p rm_N_lotsNow s m args c prog_13_method_12_code 4 cn_N) (hr : meth.sig.returnType = (some .int)) (hlk : meth.locks = false) {I : Nat → ra_K} (hI : ∀ t ∈ [12], ra_At X p l e rm_N_lotsNow s m args below meth c 4 (MQ below (ra_Qc X Z) args s 0 0 (ra_A X)) (I t) t) : ra_At X p l e rm_N_lotsNow s m args below meth c 4 (MQ below (ra_Qc X Z) args s 0 0 (ra_A X)) (b_N_lotsNow_25 c0 c1 I Z) 25 :=
  r_aload_n F d_N_lotsNow_25 rfl <| r_getR F cg_N (j := 6) (by decide) rfl fl_N_25 d_N_lotsNow_26 <| r_iload_n F d_N_lotsNow_29 rfl <| r_iload_n F d_N_lotsNow_30 rfl <| r_iconst F d_N_lotsNow_31 (by decide) <| r_iadd F d_N_lotsNow_32 <| r_aload_n F d_N_lotsNow_33 rfl <| r_getI F cg_N (j := 2) (by decide) rfl fl_N_109 d_N_lotsNow_34 <| r_icmp_ne F d_N_lotsNow_37 (by decide) (o_N_lotsNow_44 h0 h1 F hr hlk hI) (o_N_lotsNow_40 h0 h1 F hr hlk hI)
theorem o_N_lotsNow_20 {X : ra_X} {p : Program} {l : Launch} {e : Env} {s : State} {m : MethodId} {args : Array Value} {below : List Frame} {meth : Method} {c : Code} {Z : ra_R} {c0 c1 : ra_Sp}  (h0 : ra_MOK l X mi_N_readsHouses c0) (h1 : ra_MOK l X mi_N_readsLots c1) (F : ra_Fx X p rm_N_lotsNow s m args c prog_13_method_12_code 4 cn_N) (hr : meth.sig.returnType = (some .int)) (hlk : meth.locks = false) {I : Nat → ra_K} (hI : ∀ t ∈ [12], ra_At X p l e rm_N_lotsNow s m args below meth c 4 (MQ below (ra_Qc X Z) args s 0 0 (ra_A X)) (I t) t) : ra_At X p l e rm_N_lotsNow s m args below meth c 4 (MQ below (ra_Qc X Z) args s 0 0 (ra_A X)) (b_N_lotsNow_20 c0 c1 I Z) 20 :=
  r_iload_n F d_N_lotsNow_20 rfl <| r_iconst F d_N_lotsNow_21 (by decide) <| r_icmp_eq F d_N_lotsNow_22 (by decide) (o_N_lotsNow_54 h0 h1 F hr hlk hI) (o_N_lotsNow_25 h0 h1 F hr hlk hI)
theorem o_N_lotsNow_12 {X : ra_X} {p : Program} {l : Launch} {e : Env} {s : State} {m : MethodId} {args : Array Value} {below : List Frame} {meth : Method} {c : Code} {Z : ra_R} {c0 c1 : ra_Sp}  (h0 : ra_MOK l X mi_N_readsHouses c0) (h1 : ra_MOK l X mi_N_readsLots c1) (F : ra_Fx X p rm_N_lotsNow s m args c prog_13_method_12_code 4 cn_N) (hr : meth.sig.returnType = (some .int)) (hlk : meth.locks = false) {I : Nat → ra_K} (hI : ∀ t ∈ [12], ra_At X p l e rm_N_lotsNow s m args below meth c 4 (MQ below (ra_Qc X Z) args s 0 0 (ra_A X)) (I t) t) : ra_At X p l e rm_N_lotsNow s m args below meth c 4 (MQ below (ra_Qc X Z) args s 0 0 (ra_A X)) (b_N_lotsNow_12 c0 c1 I Z) 12 :=
  r_iload_n F d_N_lotsNow_12 rfl <| r_aload_n F d_N_lotsNow_13 rfl <| r_getI F cg_N (j := 2) (by decide) rfl fl_N_109 d_N_lotsNow_14 <| r_icmp_ge F d_N_lotsNow_17 (by decide) (o_N_lotsNow_54 h0 h1 F hr hlk hI) (o_N_lotsNow_20 h0 h1 F hr hlk hI)
theorem o_N_lotsNow_0 {X : ra_X} {p : Program} {l : Launch} {e : Env} {s : State} {m : MethodId} {args : Array Value} {below : List Frame} {meth : Method} {c : Code} {Z : ra_R} {c0 c1 : ra_Sp}  (h0 : ra_MOK l X mi_N_readsHouses c0) (h1 : ra_MOK l X mi_N_readsLots c1) (F : ra_Fx X p rm_N_lotsNow s m args c prog_13_method_12_code 4 cn_N) (hr : meth.sig.returnType = (some .int)) (hlk : meth.locks = false) {I : Nat → ra_K} (hI : ∀ t ∈ [12], ra_At X p l e rm_N_lotsNow s m args below meth c 4 (MQ below (ra_Qc X Z) args s 0 0 (ra_A X)) (I t) t) : ra_At X p l e rm_N_lotsNow s m args below meth c 4 (MQ below (ra_Qc X Z) args s 0 0 (ra_A X)) (b_N_lotsNow_0 c0 c1 I Z) 0 :=
  r_aload_n F d_N_lotsNow_0 rfl <| r_callV F h0 (co_N_readsHouses (by decide +kernel) (by decide +kernel)) ⟨rfl, by decide +kernel⟩ ⟨rfl, by decide⟩ ml_N_120 im_N_readsHouses se_N_readsHouses d_N_lotsNow_1 <| r_istore_n F d_N_lotsNow_4 rfl (by decide) <| r_aload_n F d_N_lotsNow_5 rfl <| r_callV F h1 (co_N_readsLots (by decide +kernel) (by decide +kernel)) ⟨rfl, by decide +kernel⟩ ⟨rfl, by decide⟩ ml_N_124 im_N_readsLots se_N_readsLots d_N_lotsNow_6 <| r_istore_n F d_N_lotsNow_9 rfl (by decide) <| r_iconst F d_N_lotsNow_10 (by decide) <| r_istore_n F d_N_lotsNow_11 rfl (by decide) <| (hI 12 (by decide))
theorem g_N_lotsNow {l : Launch} {X : ra_X} {c0 c1 : ra_Sp}  (h0 : ra_MOK l X mi_N_readsHouses c0) (h1 : ra_MOK l X mi_N_readsLots c1) (sp : ra_Sp) (I : ra_R → List Value → ra_St → Nat → ra_M → ra_K) (ve : ∀ as σ Z, ra_c1 as = true → as.length = 1 → sp as σ Z → b_N_lotsNow_0 c0 c1 (ra_I (I Z as σ)) Z (ra_pad 4 as) [] σ) (v12 : ∀ as σ Z, sp as σ Z → ∀ μ L S σ1, I Z as σ 12 μ L S σ1 → b_N_lotsNow_12 c0 c1 (ra_J (I Z as σ) μ) Z L S σ1) : ra_MOK l X mi_N_lotsNow sp := by
  refine ra_enter (k := fun Z as σ => b_N_lotsNow_0 c0 c1 (ra_I (I Z as σ)) Z) cn_N rfl (by decide +kernel) ⟨by decide +kernel, by decide +kernel⟩ (by decide +kernel) ?_ ve
  intro p e s m args below meth c Z as σ hsp F hr hlk
  refine o_N_lotsNow_0 h0 h1 F hr hlk (ra_cuts (b := fun t J => if t = 12 then b_N_lotsNow_12 c0 c1 J Z else fun _ _ _ => False) ?_ ?_)
  · intro t ht J hJ
    simp only [List.mem_cons, List.not_mem_nil, or_false] at ht
    rcases ht with rfl
    · exact o_N_lotsNow_12 h0 h1 F hr hlk hJ
  · intro t ht μ L S σ1 hI
    simp only [List.mem_cons, List.not_mem_nil, or_false] at ht
    rcases ht with rfl
    · exact v12 as σ Z hsp μ L S σ1 hI

theorem d_N_faultOf_0 : decode prog_13_method_13_code 0 = .ok (.iload_n 1, 1) := by decide +kernel
theorem d_N_faultOf_1 : decode prog_13_method_13_code 1 = .ok (.ifCond .ne 10, 3) := by decide +kernel
theorem d_N_faultOf_4 : decode prog_13_method_13_code 4 = .ok (.aload_n 0, 1) := by decide +kernel
theorem d_N_faultOf_5 : decode prog_13_method_13_code 5 = .ok (.invokevirtual 120, 3) := by decide +kernel
theorem d_N_faultOf_8 : decode prog_13_method_13_code 8 = .ok (.goto 7, 3) := by decide +kernel
theorem d_N_faultOf_11 : decode prog_13_method_13_code 11 = .ok (.aload_n 0, 1) := by decide +kernel
theorem d_N_faultOf_12 : decode prog_13_method_13_code 12 = .ok (.invokevirtual 127, 3) := by decide +kernel
theorem d_N_faultOf_15 : decode prog_13_method_13_code 15 = .ok (.ireturn, 1) := by decide +kernel
def b_N_faultOf_15 (c0 c1 : ra_Sp) (Z : ra_R) : ra_K := w_ir Z
def b_N_faultOf_11 (c0 c1 : ra_Sp) (Z : ra_R) : ra_K := w_al 0 <| w_cv c1 1 11 <| (b_N_faultOf_15 c0 c1 Z)
def b_N_faultOf_4 (c0 c1 : ra_Sp) (Z : ra_R) : ra_K := w_al 0 <| w_cv c0 1 11 <| (b_N_faultOf_15 c0 c1 Z)
def b_N_faultOf_0 (c0 c1 : ra_Sp) (Z : ra_R) : ra_K := w_il 1 <| w_b1 (fun x => x = 0) (b_N_faultOf_4 c0 c1 Z) (b_N_faultOf_11 c0 c1 Z)
theorem o_N_faultOf_15 {X : ra_X} {p : Program} {l : Launch} {e : Env} {s : State} {m : MethodId} {args : Array Value} {below : List Frame} {meth : Method} {c : Code} {Z : ra_R} {c0 c1 : ra_Sp}  (h0 : ra_MOK l X mi_N_readsHouses c0) (h1 : ra_MOK l X mi_N_lotsNow c1) (F : ra_Fx X p rm_N_faultOf s m args c prog_13_method_13_code 2 cn_N) (hr : meth.sig.returnType = (some .int)) (hlk : meth.locks = false) : ra_At X p l e rm_N_faultOf s m args below meth c 2 (MQ below (ra_Qc X Z) args s 0 0 (ra_A X)) (b_N_faultOf_15 c0 c1 Z) 15 :=
  r_ireturn F hr hlk d_N_faultOf_15
theorem o_N_faultOf_11 {X : ra_X} {p : Program} {l : Launch} {e : Env} {s : State} {m : MethodId} {args : Array Value} {below : List Frame} {meth : Method} {c : Code} {Z : ra_R} {c0 c1 : ra_Sp}  (h0 : ra_MOK l X mi_N_readsHouses c0) (h1 : ra_MOK l X mi_N_lotsNow c1) (F : ra_Fx X p rm_N_faultOf s m args c prog_13_method_13_code 2 cn_N) (hr : meth.sig.returnType = (some .int)) (hlk : meth.locks = false) : ra_At X p l e rm_N_faultOf s m args below meth c 2 (MQ below (ra_Qc X Z) args s 0 0 (ra_A X)) (b_N_faultOf_11 c0 c1 Z) 11 :=
  r_aload_n F d_N_faultOf_11 rfl <| r_callV F h1 (co_N_lotsNow (by decide +kernel) (by decide +kernel)) ⟨rfl, by decide +kernel⟩ ⟨rfl, by decide⟩ ml_N_127 im_N_lotsNow se_N_lotsNow d_N_faultOf_12 <| (o_N_faultOf_15 h0 h1 F hr hlk)
theorem o_N_faultOf_4 {X : ra_X} {p : Program} {l : Launch} {e : Env} {s : State} {m : MethodId} {args : Array Value} {below : List Frame} {meth : Method} {c : Code} {Z : ra_R} {c0 c1 : ra_Sp}  (h0 : ra_MOK l X mi_N_readsHouses c0) (h1 : ra_MOK l X mi_N_lotsNow c1) (F : ra_Fx X p rm_N_faultOf s m args c prog_13_method_13_code 2 cn_N) (hr : meth.sig.returnType = (some .int)) (hlk : meth.locks = false) : ra_At X p l e rm_N_faultOf s m args below meth c 2 (MQ below (ra_Qc X Z) args s 0 0 (ra_A X)) (b_N_faultOf_4 c0 c1 Z) 4 :=
  r_aload_n F d_N_faultOf_4 rfl <| r_callV F h0 (co_N_readsHouses (by decide +kernel) (by decide +kernel)) ⟨rfl, by decide +kernel⟩ ⟨rfl, by decide⟩ ml_N_120 im_N_readsHouses se_N_readsHouses d_N_faultOf_5 <| r_goto F d_N_faultOf_8 (by decide) (o_N_faultOf_15 h0 h1 F hr hlk)
theorem o_N_faultOf_0 {X : ra_X} {p : Program} {l : Launch} {e : Env} {s : State} {m : MethodId} {args : Array Value} {below : List Frame} {meth : Method} {c : Code} {Z : ra_R} {c0 c1 : ra_Sp}  (h0 : ra_MOK l X mi_N_readsHouses c0) (h1 : ra_MOK l X mi_N_lotsNow c1) (F : ra_Fx X p rm_N_faultOf s m args c prog_13_method_13_code 2 cn_N) (hr : meth.sig.returnType = (some .int)) (hlk : meth.locks = false) : ra_At X p l e rm_N_faultOf s m args below meth c 2 (MQ below (ra_Qc X Z) args s 0 0 (ra_A X)) (b_N_faultOf_0 c0 c1 Z) 0 :=
  r_iload_n F d_N_faultOf_0 rfl <| r_if_ne F d_N_faultOf_1 (by decide) (o_N_faultOf_11 h0 h1 F hr hlk) (o_N_faultOf_4 h0 h1 F hr hlk)
theorem g_N_faultOf {l : Launch} {X : ra_X} {c0 c1 : ra_Sp}  (h0 : ra_MOK l X mi_N_readsHouses c0) (h1 : ra_MOK l X mi_N_lotsNow c1) (sp : ra_Sp) (ve : ∀ as σ Z, ra_c1 as = true → as.length = 2 → sp as σ Z → b_N_faultOf_0 c0 c1 Z (ra_pad 2 as) [] σ) : ra_MOK l X mi_N_faultOf sp := by
  refine ra_enter (k := fun Z as σ => b_N_faultOf_0 c0 c1 Z) cn_N rfl (by decide +kernel) ⟨by decide +kernel, by decide +kernel⟩ (by decide +kernel) ?_ ve
  intro p e s m args below meth c Z as σ hsp F hr hlk
  exact o_N_faultOf_0 h0 h1 F hr hlk

theorem d_N_fault_0 : decode prog_13_method_15_code 0 = .ok (.iload_n 1, 1) := by decide +kernel
theorem d_N_fault_1 : decode prog_13_method_15_code 1 = .ok (.iconst 0, 1) := by decide +kernel
theorem d_N_fault_2 : decode prog_13_method_15_code 2 = .ok (.iconst 1, 1) := by decide +kernel
theorem d_N_fault_3 : decode prog_13_method_15_code 3 = .ok (.invokestatic 101, 3) := by decide +kernel
theorem d_N_fault_6 : decode prog_13_method_15_code 6 = .ok (.ifCond .eq 11, 3) := by decide +kernel
theorem d_N_fault_9 : decode prog_13_method_15_code 9 = .ok (.aload_n 0, 1) := by decide +kernel
theorem d_N_fault_10 : decode prog_13_method_15_code 10 = .ok (.iload_n 1, 1) := by decide +kernel
theorem d_N_fault_11 : decode prog_13_method_15_code 11 = .ok (.invokevirtual 130, 3) := by decide +kernel
theorem d_N_fault_14 : decode prog_13_method_15_code 14 = .ok (.goto 5, 3) := by decide +kernel
theorem d_N_fault_17 : decode prog_13_method_15_code 17 = .ok (.bipush (-2), 2) := by decide +kernel
theorem d_N_fault_19 : decode prog_13_method_15_code 19 = .ok (.ireturn, 1) := by decide +kernel
def b_N_fault_19 (c0 c1 : ra_Sp) (Z : ra_R) : ra_K := w_ir Z
def b_N_fault_17 (c0 c1 : ra_Sp) (Z : ra_R) : ra_K := w_c (-2) <| (b_N_fault_19 c0 c1 Z)
def b_N_fault_9 (c0 c1 : ra_Sp) (Z : ra_R) : ra_K := w_al 0 <| w_il 1 <| w_cv c1 2 11 <| (b_N_fault_19 c0 c1 Z)
def b_N_fault_0 (c0 c1 : ra_Sp) (Z : ra_R) : ra_K := w_il 1 <| w_c 0 <| w_c 1 <| w_cs c0 3 <| w_b1 (fun x => x = 0) (b_N_fault_17 c0 c1 Z) (b_N_fault_9 c0 c1 Z)
theorem o_N_fault_19 {X : ra_X} {p : Program} {l : Launch} {e : Env} {s : State} {m : MethodId} {args : Array Value} {below : List Frame} {meth : Method} {c : Code} {Z : ra_R} {c0 c1 : ra_Sp}  (h0 : ra_MOK l X mi_N_in c0) (h1 : ra_MOK l X mi_N_faultOf c1) (F : ra_Fx X p rm_N_fault s m args c prog_13_method_15_code 2 cn_N) (hr : meth.sig.returnType = (some .int)) (hlk : meth.locks = false) : ra_At X p l e rm_N_fault s m args below meth c 2 (MQ below (ra_Qc X Z) args s 0 0 (ra_A X)) (b_N_fault_19 c0 c1 Z) 19 :=
  r_ireturn F hr hlk d_N_fault_19
theorem o_N_fault_17 {X : ra_X} {p : Program} {l : Launch} {e : Env} {s : State} {m : MethodId} {args : Array Value} {below : List Frame} {meth : Method} {c : Code} {Z : ra_R} {c0 c1 : ra_Sp}  (h0 : ra_MOK l X mi_N_in c0) (h1 : ra_MOK l X mi_N_faultOf c1) (F : ra_Fx X p rm_N_fault s m args c prog_13_method_15_code 2 cn_N) (hr : meth.sig.returnType = (some .int)) (hlk : meth.locks = false) : ra_At X p l e rm_N_fault s m args below meth c 2 (MQ below (ra_Qc X Z) args s 0 0 (ra_A X)) (b_N_fault_17 c0 c1 Z) 17 :=
  r_bipush F d_N_fault_17 (by decide) <| (o_N_fault_19 h0 h1 F hr hlk)
theorem o_N_fault_9 {X : ra_X} {p : Program} {l : Launch} {e : Env} {s : State} {m : MethodId} {args : Array Value} {below : List Frame} {meth : Method} {c : Code} {Z : ra_R} {c0 c1 : ra_Sp}  (h0 : ra_MOK l X mi_N_in c0) (h1 : ra_MOK l X mi_N_faultOf c1) (F : ra_Fx X p rm_N_fault s m args c prog_13_method_15_code 2 cn_N) (hr : meth.sig.returnType = (some .int)) (hlk : meth.locks = false) : ra_At X p l e rm_N_fault s m args below meth c 2 (MQ below (ra_Qc X Z) args s 0 0 (ra_A X)) (b_N_fault_9 c0 c1 Z) 9 :=
  r_aload_n F d_N_fault_9 rfl <| r_iload_n F d_N_fault_10 rfl <| r_callV F h1 (co_N_faultOf (by decide +kernel) (by decide +kernel)) ⟨rfl, by decide +kernel⟩ ⟨rfl, by decide⟩ ml_N_130 im_N_faultOf se_N_faultOf d_N_fault_11 <| r_goto F d_N_fault_14 (by decide) (o_N_fault_19 h0 h1 F hr hlk)
theorem o_N_fault_0 {X : ra_X} {p : Program} {l : Launch} {e : Env} {s : State} {m : MethodId} {args : Array Value} {below : List Frame} {meth : Method} {c : Code} {Z : ra_R} {c0 c1 : ra_Sp}  (h0 : ra_MOK l X mi_N_in c0) (h1 : ra_MOK l X mi_N_faultOf c1) (F : ra_Fx X p rm_N_fault s m args c prog_13_method_15_code 2 cn_N) (hr : meth.sig.returnType = (some .int)) (hlk : meth.locks = false) : ra_At X p l e rm_N_fault s m args below meth c 2 (MQ below (ra_Qc X Z) args s 0 0 (ra_A X)) (b_N_fault_0 c0 c1 Z) 0 :=
  r_iload_n F d_N_fault_0 rfl <| r_iconst F d_N_fault_1 (by decide) <| r_iconst F d_N_fault_2 (by decide) <| r_callS F h0 (co_N_in (by decide +kernel) (by decide +kernel)) ⟨rfl, by decide +kernel⟩ ml_N_101 st_N_in d_N_fault_3 <| r_if_eq F d_N_fault_6 (by decide) (o_N_fault_17 h0 h1 F hr hlk) (o_N_fault_9 h0 h1 F hr hlk)
theorem g_N_fault {l : Launch} {X : ra_X} {c0 c1 : ra_Sp}  (h0 : ra_MOK l X mi_N_in c0) (h1 : ra_MOK l X mi_N_faultOf c1) (sp : ra_Sp) (ve : ∀ as σ Z, ra_c1 as = true → as.length = 2 → sp as σ Z → b_N_fault_0 c0 c1 Z (ra_pad 2 as) [] σ) : ra_MOK l X mi_N_fault sp := by
  refine ra_enter (k := fun Z as σ => b_N_fault_0 c0 c1 Z) cn_N rfl (by decide +kernel) ⟨by decide +kernel, by decide +kernel⟩ (by decide +kernel) ?_ ve
  intro p e s m args below meth c Z as σ hsp F hr hlk
  exact o_N_fault_0 h0 h1 F hr hlk

theorem d_N_reads_0 : decode prog_13_method_14_code 0 = .ok (.aload_n 0, 1) := by decide +kernel
theorem d_N_reads_1 : decode prog_13_method_14_code 1 = .ok (.invokevirtual 127, 3) := by decide +kernel
theorem d_N_reads_4 : decode prog_13_method_14_code 4 = .ok (.istore_n 1, 1) := by decide +kernel
theorem d_N_reads_5 : decode prog_13_method_14_code 5 = .ok (.return_, 1) := by decide +kernel
def b_N_reads_0 (c0 : ra_Sp) (Z : ra_R) : ra_K := w_al 0 <| w_cv c0 1 11 <| w_is 1 <| w_vr Z
theorem o_N_reads_0 {X : ra_X} {p : Program} {l : Launch} {e : Env} {s : State} {m : MethodId} {args : Array Value} {below : List Frame} {meth : Method} {c : Code} {Z : ra_R} {c0 : ra_Sp}  (h0 : ra_MOK l X mi_N_lotsNow c0) (F : ra_Fx X p rm_N_reads s m args c prog_13_method_14_code 2 cn_N) (hr : meth.sig.returnType = none) (hlk : meth.locks = false) : ra_At X p l e rm_N_reads s m args below meth c 2 (MQ below (ra_Qc X Z) args s 0 0 (ra_A X)) (b_N_reads_0 c0 Z) 0 :=
  r_aload_n F d_N_reads_0 rfl <| r_callV F h0 (co_N_lotsNow (by decide +kernel) (by decide +kernel)) ⟨rfl, by decide +kernel⟩ ⟨rfl, by decide⟩ ml_N_127 im_N_lotsNow se_N_lotsNow d_N_reads_1 <| r_istore_n F d_N_reads_4 rfl (by decide) <| r_return F hr hlk d_N_reads_5
theorem g_N_reads {l : Launch} {X : ra_X} {c0 : ra_Sp}  (h0 : ra_MOK l X mi_N_lotsNow c0) (sp : ra_Sp) (ve : ∀ as σ Z, ra_c1 as = true → as.length = 1 → sp as σ Z → b_N_reads_0 c0 Z (ra_pad 2 as) [] σ) : ra_MOK l X mi_N_reads sp := by
  refine ra_enter (k := fun Z as σ => b_N_reads_0 c0 Z) cn_N rfl (by decide +kernel) ⟨by decide +kernel, by decide +kernel⟩ (by decide +kernel) ?_ ve
  intro p e s m args below meth c Z as σ hsp F hr hlk
  exact o_N_reads_0 h0 F hr hlk

theorem d_N_isHouse_0 : decode prog_13_method_16_code 0 = .ok (.aload_n 0, 1) := by decide +kernel
theorem d_N_isHouse_1 : decode prog_13_method_16_code 1 = .ok (.invokevirtual 134, 3) := by decide +kernel
theorem d_N_isHouse_4 : decode prog_13_method_16_code 4 = .ok (.iload_n 1, 1) := by decide +kernel
theorem d_N_isHouse_5 : decode prog_13_method_16_code 5 = .ok (.iconst 0, 1) := by decide +kernel
theorem d_N_isHouse_6 : decode prog_13_method_16_code 6 = .ok (.aload_n 0, 1) := by decide +kernel
theorem d_N_isHouse_7 : decode prog_13_method_16_code 7 = .ok (.getfield 109, 3) := by decide +kernel
theorem d_N_isHouse_10 : decode prog_13_method_16_code 10 = .ok (.iconst 1, 1) := by decide +kernel
theorem d_N_isHouse_11 : decode prog_13_method_16_code 11 = .ok (.isub, 1) := by decide +kernel
theorem d_N_isHouse_12 : decode prog_13_method_16_code 12 = .ok (.invokestatic 101, 3) := by decide +kernel
theorem d_N_isHouse_15 : decode prog_13_method_16_code 15 = .ok (.ireturn, 1) := by decide +kernel
def b_N_isHouse_0 (c0 c1 : ra_Sp) (Z : ra_R) : ra_K := w_al 0 <| w_cv c0 1 11 <| w_il 1 <| w_c 0 <| w_al 0 <| w_gi 11 2 <| w_c 1 <| w_i2 (fun x y => x - y) <| w_cs c1 3 <| w_zr Z
theorem o_N_isHouse_0 {X : ra_X} {p : Program} {l : Launch} {e : Env} {s : State} {m : MethodId} {args : Array Value} {below : List Frame} {meth : Method} {c : Code} {Z : ra_R} {c0 c1 : ra_Sp}  (h0 : ra_MOK l X mi_N_reads c0) (h1 : ra_MOK l X mi_N_in c1) (F : ra_Fx X p rm_N_isHouse s m args c prog_13_method_16_code 2 cn_N) (hr : meth.sig.returnType = (some .boolean)) (hlk : meth.locks = false) : ra_At X p l e rm_N_isHouse s m args below meth c 2 (MQ below (ra_Qc X Z) args s 0 0 (ra_A X)) (b_N_isHouse_0 c0 c1 Z) 0 :=
  r_aload_n F d_N_isHouse_0 rfl <| r_callV F h0 (co_N_reads (by decide +kernel) (by decide +kernel)) ⟨rfl, by decide +kernel⟩ ⟨rfl, by decide⟩ ml_N_134 im_N_reads se_N_reads d_N_isHouse_1 <| r_iload_n F d_N_isHouse_4 rfl <| r_iconst F d_N_isHouse_5 (by decide) <| r_aload_n F d_N_isHouse_6 rfl <| r_getI F cg_N (j := 2) (by decide) rfl fl_N_109 d_N_isHouse_7 <| r_iconst F d_N_isHouse_10 (by decide) <| r_isub F d_N_isHouse_11 <| r_callS F h1 (co_N_in (by decide +kernel) (by decide +kernel)) ⟨rfl, by decide +kernel⟩ ml_N_101 st_N_in d_N_isHouse_12 <| r_zreturn F hr hlk d_N_isHouse_15
theorem g_N_isHouse {l : Launch} {X : ra_X} {c0 c1 : ra_Sp}  (h0 : ra_MOK l X mi_N_reads c0) (h1 : ra_MOK l X mi_N_in c1) (sp : ra_Sp) (ve : ∀ as σ Z, ra_c1 as = true → as.length = 2 → sp as σ Z → b_N_isHouse_0 c0 c1 Z (ra_pad 2 as) [] σ) : ra_MOK l X mi_N_isHouse sp := by
  refine ra_enter (k := fun Z as σ => b_N_isHouse_0 c0 c1 Z) cn_N rfl (by decide +kernel) ⟨by decide +kernel, by decide +kernel⟩ (by decide +kernel) ?_ ve
  intro p e s m args below meth c Z as σ hsp F hr hlk
  exact o_N_isHouse_0 h0 h1 F hr hlk

theorem d_N_ownerOf_0 : decode prog_13_method_18_code 0 = .ok (.iconst 0, 1) := by decide +kernel
theorem d_N_ownerOf_1 : decode prog_13_method_18_code 1 = .ok (.istore_n 2, 1) := by decide +kernel
theorem d_N_ownerOf_2 : decode prog_13_method_18_code 2 = .ok (.aload_n 0, 1) := by decide +kernel
theorem d_N_ownerOf_3 : decode prog_13_method_18_code 3 = .ok (.getfield 25, 3) := by decide +kernel
theorem d_N_ownerOf_6 : decode prog_13_method_18_code 6 = .ok (.iload_n 2, 1) := by decide +kernel
theorem d_N_ownerOf_7 : decode prog_13_method_18_code 7 = .ok (.iaload, 1) := by decide +kernel
theorem d_N_ownerOf_8 : decode prog_13_method_18_code 8 = .ok (.iload_n 1, 1) := by decide +kernel
theorem d_N_ownerOf_9 : decode prog_13_method_18_code 9 = .ok (.if_icmp .eq 9, 3) := by decide +kernel
theorem d_N_ownerOf_12 : decode prog_13_method_18_code 12 = .ok (.iinc 2 1, 3) := by decide +kernel
theorem d_N_ownerOf_15 : decode prog_13_method_18_code 15 = .ok (.goto (-13), 3) := by decide +kernel
theorem d_N_ownerOf_18 : decode prog_13_method_18_code 18 = .ok (.iload_n 2, 1) := by decide +kernel
theorem d_N_ownerOf_19 : decode prog_13_method_18_code 19 = .ok (.ireturn, 1) := by decide +kernel
def b_N_ownerOf_18 (I : Nat → ra_K) (Z : ra_R) : ra_K := w_il 2 <| w_ir Z
def b_N_ownerOf_12 (I : Nat → ra_K) (Z : ra_R) : ra_K := w_inc 2 1 <| (I 2)
def b_N_ownerOf_2 (I : Nat → ra_K) (Z : ra_R) : ra_K := w_al 0 <| w_gr 11 6 <| w_il 2 <| w_ald <| w_il 1 <| w_b2 (fun x y => x = y) (b_N_ownerOf_18 I Z) (b_N_ownerOf_12 I Z)
def b_N_ownerOf_0 (I : Nat → ra_K) (Z : ra_R) : ra_K := w_c 0 <| w_is 2 <| (I 2)
theorem o_N_ownerOf_18 {X : ra_X} {p : Program} {l : Launch} {e : Env} {s : State} {m : MethodId} {args : Array Value} {below : List Frame} {meth : Method} {c : Code} {Z : ra_R}  (F : ra_Fx X p rm_N_ownerOf s m args c prog_13_method_18_code 3 cn_N) (hr : meth.sig.returnType = (some .int)) (hlk : meth.locks = false) {I : Nat → ra_K} (hI : ∀ t ∈ [2], ra_At X p l e rm_N_ownerOf s m args below meth c 3 (MQ below (ra_Qc X Z) args s 0 0 (ra_A X)) (I t) t) : ra_At X p l e rm_N_ownerOf s m args below meth c 3 (MQ below (ra_Qc X Z) args s 0 0 (ra_A X)) (b_N_ownerOf_18 I Z) 18 :=
  r_iload_n F d_N_ownerOf_18 rfl <| r_ireturn F hr hlk d_N_ownerOf_19
theorem o_N_ownerOf_12 {X : ra_X} {p : Program} {l : Launch} {e : Env} {s : State} {m : MethodId} {args : Array Value} {below : List Frame} {meth : Method} {c : Code} {Z : ra_R}  (F : ra_Fx X p rm_N_ownerOf s m args c prog_13_method_18_code 3 cn_N) (hr : meth.sig.returnType = (some .int)) (hlk : meth.locks = false) {I : Nat → ra_K} (hI : ∀ t ∈ [2], ra_At X p l e rm_N_ownerOf s m args below meth c 3 (MQ below (ra_Qc X Z) args s 0 0 (ra_A X)) (I t) t) : ra_At X p l e rm_N_ownerOf s m args below meth c 3 (MQ below (ra_Qc X Z) args s 0 0 (ra_A X)) (b_N_ownerOf_12 I Z) 12 :=
  r_iinc F d_N_ownerOf_12 (by decide) (by decide) <| r_goto F d_N_ownerOf_15 (by decide) (hI 2 (by decide))
theorem o_N_ownerOf_2 {X : ra_X} {p : Program} {l : Launch} {e : Env} {s : State} {m : MethodId} {args : Array Value} {below : List Frame} {meth : Method} {c : Code} {Z : ra_R}  (F : ra_Fx X p rm_N_ownerOf s m args c prog_13_method_18_code 3 cn_N) (hr : meth.sig.returnType = (some .int)) (hlk : meth.locks = false) {I : Nat → ra_K} (hI : ∀ t ∈ [2], ra_At X p l e rm_N_ownerOf s m args below meth c 3 (MQ below (ra_Qc X Z) args s 0 0 (ra_A X)) (I t) t) : ra_At X p l e rm_N_ownerOf s m args below meth c 3 (MQ below (ra_Qc X Z) args s 0 0 (ra_A X)) (b_N_ownerOf_2 I Z) 2 :=
  r_aload_n F d_N_ownerOf_2 rfl <| r_getR F cg_N (j := 6) (by decide) rfl fl_N_25 d_N_ownerOf_3 <| r_iload_n F d_N_ownerOf_6 rfl <| r_iaload F d_N_ownerOf_7 <| r_iload_n F d_N_ownerOf_8 rfl <| r_icmp_eq F d_N_ownerOf_9 (by decide) (o_N_ownerOf_18 F hr hlk hI) (o_N_ownerOf_12 F hr hlk hI)
theorem o_N_ownerOf_0 {X : ra_X} {p : Program} {l : Launch} {e : Env} {s : State} {m : MethodId} {args : Array Value} {below : List Frame} {meth : Method} {c : Code} {Z : ra_R}  (F : ra_Fx X p rm_N_ownerOf s m args c prog_13_method_18_code 3 cn_N) (hr : meth.sig.returnType = (some .int)) (hlk : meth.locks = false) {I : Nat → ra_K} (hI : ∀ t ∈ [2], ra_At X p l e rm_N_ownerOf s m args below meth c 3 (MQ below (ra_Qc X Z) args s 0 0 (ra_A X)) (I t) t) : ra_At X p l e rm_N_ownerOf s m args below meth c 3 (MQ below (ra_Qc X Z) args s 0 0 (ra_A X)) (b_N_ownerOf_0 I Z) 0 :=
  r_iconst F d_N_ownerOf_0 (by decide) <| r_istore_n F d_N_ownerOf_1 rfl (by decide) <| (hI 2 (by decide))
theorem g_N_ownerOf {l : Launch} {X : ra_X}  (sp : ra_Sp) (I : ra_R → List Value → ra_St → Nat → ra_M → ra_K) (ve : ∀ as σ Z, ra_c1 as = true → as.length = 2 → sp as σ Z → b_N_ownerOf_0 (ra_I (I Z as σ)) Z (ra_pad 3 as) [] σ) (v2 : ∀ as σ Z, sp as σ Z → ∀ μ L S σ1, I Z as σ 2 μ L S σ1 → b_N_ownerOf_2 (ra_J (I Z as σ) μ) Z L S σ1) : ra_MOK l X mi_N_ownerOf sp := by
  refine ra_enter (k := fun Z as σ => b_N_ownerOf_0 (ra_I (I Z as σ)) Z) cn_N rfl (by decide +kernel) ⟨by decide +kernel, by decide +kernel⟩ (by decide +kernel) ?_ ve
  intro p e s m args below meth c Z as σ hsp F hr hlk
  refine o_N_ownerOf_0 F hr hlk (ra_cuts (b := fun t J => if t = 2 then b_N_ownerOf_2 J Z else fun _ _ _ => False) ?_ ?_)
  · intro t ht J hJ
    simp only [List.mem_cons, List.not_mem_nil, or_false] at ht
    rcases ht with rfl
    · exact o_N_ownerOf_2 F hr hlk hJ
  · intro t ht μ L S σ1 hI
    simp only [List.mem_cons, List.not_mem_nil, or_false] at ht
    rcases ht with rfl
    · exact v2 as σ Z hsp μ L S σ1 hI

theorem d_N_houseOf_0 : decode prog_13_method_19_code 0 = .ok (.iload_n 2, 1) := by decide +kernel
theorem d_N_houseOf_1 : decode prog_13_method_19_code 1 = .ok (.ifCond .ne 12, 3) := by decide +kernel
theorem d_N_houseOf_4 : decode prog_13_method_19_code 4 = .ok (.aload_n 0, 1) := by decide +kernel
theorem d_N_houseOf_5 : decode prog_13_method_19_code 5 = .ok (.getfield 16, 3) := by decide +kernel
theorem d_N_houseOf_8 : decode prog_13_method_19_code 8 = .ok (.iload_n 1, 1) := by decide +kernel
theorem d_N_houseOf_9 : decode prog_13_method_19_code 9 = .ok (.iaload, 1) := by decide +kernel
theorem d_N_houseOf_10 : decode prog_13_method_19_code 10 = .ok (.goto 50, 3) := by decide +kernel
theorem d_N_houseOf_13 : decode prog_13_method_19_code 13 = .ok (.iload_n 2, 1) := by decide +kernel
theorem d_N_houseOf_14 : decode prog_13_method_19_code 14 = .ok (.iconst 1, 1) := by decide +kernel
theorem d_N_houseOf_15 : decode prog_13_method_19_code 15 = .ok (.if_icmp .ne 12, 3) := by decide +kernel
theorem d_N_houseOf_18 : decode prog_13_method_19_code 18 = .ok (.aload_n 0, 1) := by decide +kernel
theorem d_N_houseOf_19 : decode prog_13_method_19_code 19 = .ok (.getfield 19, 3) := by decide +kernel
theorem d_N_houseOf_22 : decode prog_13_method_19_code 22 = .ok (.iload_n 1, 1) := by decide +kernel
theorem d_N_houseOf_23 : decode prog_13_method_19_code 23 = .ok (.iaload, 1) := by decide +kernel
theorem d_N_houseOf_24 : decode prog_13_method_19_code 24 = .ok (.goto 36, 3) := by decide +kernel
theorem d_N_houseOf_27 : decode prog_13_method_19_code 27 = .ok (.iload_n 2, 1) := by decide +kernel
theorem d_N_houseOf_28 : decode prog_13_method_19_code 28 = .ok (.iconst 2, 1) := by decide +kernel
theorem d_N_houseOf_29 : decode prog_13_method_19_code 29 = .ok (.if_icmp .ne 12, 3) := by decide +kernel
theorem d_N_houseOf_32 : decode prog_13_method_19_code 32 = .ok (.aload_n 0, 1) := by decide +kernel
theorem d_N_houseOf_33 : decode prog_13_method_19_code 33 = .ok (.getfield 22, 3) := by decide +kernel
theorem d_N_houseOf_36 : decode prog_13_method_19_code 36 = .ok (.iload_n 1, 1) := by decide +kernel
theorem d_N_houseOf_37 : decode prog_13_method_19_code 37 = .ok (.iaload, 1) := by decide +kernel
theorem d_N_houseOf_38 : decode prog_13_method_19_code 38 = .ok (.goto 22, 3) := by decide +kernel
theorem d_N_houseOf_41 : decode prog_13_method_19_code 41 = .ok (.iload_n 2, 1) := by decide +kernel
theorem d_N_houseOf_42 : decode prog_13_method_19_code 42 = .ok (.iconst 3, 1) := by decide +kernel
theorem d_N_houseOf_43 : decode prog_13_method_19_code 43 = .ok (.if_icmp .ne 12, 3) := by decide +kernel
theorem d_N_houseOf_46 : decode prog_13_method_19_code 46 = .ok (.aload_n 0, 1) := by decide +kernel
theorem d_N_houseOf_47 : decode prog_13_method_19_code 47 = .ok (.getfield 25, 3) := by decide +kernel
theorem d_N_houseOf_50 : decode prog_13_method_19_code 50 = .ok (.iload_n 1, 1) := by decide +kernel
theorem d_N_houseOf_51 : decode prog_13_method_19_code 51 = .ok (.iaload, 1) := by decide +kernel
theorem d_N_houseOf_52 : decode prog_13_method_19_code 52 = .ok (.goto 8, 3) := by decide +kernel
theorem d_N_houseOf_55 : decode prog_13_method_19_code 55 = .ok (.aload_n 0, 1) := by decide +kernel
theorem d_N_houseOf_56 : decode prog_13_method_19_code 56 = .ok (.iload_n 1, 1) := by decide +kernel
theorem d_N_houseOf_57 : decode prog_13_method_19_code 57 = .ok (.invokevirtual 137, 3) := by decide +kernel
theorem d_N_houseOf_60 : decode prog_13_method_19_code 60 = .ok (.ireturn, 1) := by decide +kernel
def b_N_houseOf_60 (c0 : ra_Sp) (Z : ra_R) : ra_K := w_ir Z
def b_N_houseOf_55 (c0 : ra_Sp) (Z : ra_R) : ra_K := w_al 0 <| w_il 1 <| w_cv c0 2 11 <| (b_N_houseOf_60 c0 Z)
def b_N_houseOf_46 (c0 : ra_Sp) (Z : ra_R) : ra_K := w_al 0 <| w_gr 11 6 <| w_il 1 <| w_ald <| (b_N_houseOf_60 c0 Z)
def b_N_houseOf_41 (c0 : ra_Sp) (Z : ra_R) : ra_K := w_il 2 <| w_c 3 <| w_b2 (fun x y => x = y) (b_N_houseOf_46 c0 Z) (b_N_houseOf_55 c0 Z)
def b_N_houseOf_32 (c0 : ra_Sp) (Z : ra_R) : ra_K := w_al 0 <| w_gr 11 5 <| w_il 1 <| w_ald <| (b_N_houseOf_60 c0 Z)
def b_N_houseOf_27 (c0 : ra_Sp) (Z : ra_R) : ra_K := w_il 2 <| w_c 2 <| w_b2 (fun x y => x = y) (b_N_houseOf_32 c0 Z) (b_N_houseOf_41 c0 Z)
def b_N_houseOf_18 (c0 : ra_Sp) (Z : ra_R) : ra_K := w_al 0 <| w_gr 11 4 <| w_il 1 <| w_ald <| (b_N_houseOf_60 c0 Z)
def b_N_houseOf_13 (c0 : ra_Sp) (Z : ra_R) : ra_K := w_il 2 <| w_c 1 <| w_b2 (fun x y => x = y) (b_N_houseOf_18 c0 Z) (b_N_houseOf_27 c0 Z)
def b_N_houseOf_4 (c0 : ra_Sp) (Z : ra_R) : ra_K := w_al 0 <| w_gr 11 3 <| w_il 1 <| w_ald <| (b_N_houseOf_60 c0 Z)
def b_N_houseOf_0 (c0 : ra_Sp) (Z : ra_R) : ra_K := w_il 2 <| w_b1 (fun x => x = 0) (b_N_houseOf_4 c0 Z) (b_N_houseOf_13 c0 Z)
theorem o_N_houseOf_60 {X : ra_X} {p : Program} {l : Launch} {e : Env} {s : State} {m : MethodId} {args : Array Value} {below : List Frame} {meth : Method} {c : Code} {Z : ra_R} {c0 : ra_Sp}  (h0 : ra_MOK l X mi_N_ownerOf c0) (F : ra_Fx X p rm_N_houseOf s m args c prog_13_method_19_code 3 cn_N) (hr : meth.sig.returnType = (some .int)) (hlk : meth.locks = false) : ra_At X p l e rm_N_houseOf s m args below meth c 3 (MQ below (ra_Qc X Z) args s 0 0 (ra_A X)) (b_N_houseOf_60 c0 Z) 60 :=
  r_ireturn F hr hlk d_N_houseOf_60
theorem o_N_houseOf_55 {X : ra_X} {p : Program} {l : Launch} {e : Env} {s : State} {m : MethodId} {args : Array Value} {below : List Frame} {meth : Method} {c : Code} {Z : ra_R} {c0 : ra_Sp}  (h0 : ra_MOK l X mi_N_ownerOf c0) (F : ra_Fx X p rm_N_houseOf s m args c prog_13_method_19_code 3 cn_N) (hr : meth.sig.returnType = (some .int)) (hlk : meth.locks = false) : ra_At X p l e rm_N_houseOf s m args below meth c 3 (MQ below (ra_Qc X Z) args s 0 0 (ra_A X)) (b_N_houseOf_55 c0 Z) 55 :=
  r_aload_n F d_N_houseOf_55 rfl <| r_iload_n F d_N_houseOf_56 rfl <| r_callV F h0 (co_N_ownerOf (by decide +kernel) (by decide +kernel)) ⟨rfl, by decide +kernel⟩ ⟨rfl, by decide⟩ ml_N_137 im_N_ownerOf se_N_ownerOf d_N_houseOf_57 <| (o_N_houseOf_60 h0 F hr hlk)
theorem o_N_houseOf_46 {X : ra_X} {p : Program} {l : Launch} {e : Env} {s : State} {m : MethodId} {args : Array Value} {below : List Frame} {meth : Method} {c : Code} {Z : ra_R} {c0 : ra_Sp}  (h0 : ra_MOK l X mi_N_ownerOf c0) (F : ra_Fx X p rm_N_houseOf s m args c prog_13_method_19_code 3 cn_N) (hr : meth.sig.returnType = (some .int)) (hlk : meth.locks = false) : ra_At X p l e rm_N_houseOf s m args below meth c 3 (MQ below (ra_Qc X Z) args s 0 0 (ra_A X)) (b_N_houseOf_46 c0 Z) 46 :=
  r_aload_n F d_N_houseOf_46 rfl <| r_getR F cg_N (j := 6) (by decide) rfl fl_N_25 d_N_houseOf_47 <| r_iload_n F d_N_houseOf_50 rfl <| r_iaload F d_N_houseOf_51 <| r_goto F d_N_houseOf_52 (by decide) (o_N_houseOf_60 h0 F hr hlk)
theorem o_N_houseOf_41 {X : ra_X} {p : Program} {l : Launch} {e : Env} {s : State} {m : MethodId} {args : Array Value} {below : List Frame} {meth : Method} {c : Code} {Z : ra_R} {c0 : ra_Sp}  (h0 : ra_MOK l X mi_N_ownerOf c0) (F : ra_Fx X p rm_N_houseOf s m args c prog_13_method_19_code 3 cn_N) (hr : meth.sig.returnType = (some .int)) (hlk : meth.locks = false) : ra_At X p l e rm_N_houseOf s m args below meth c 3 (MQ below (ra_Qc X Z) args s 0 0 (ra_A X)) (b_N_houseOf_41 c0 Z) 41 :=
  r_iload_n F d_N_houseOf_41 rfl <| r_iconst F d_N_houseOf_42 (by decide) <| r_icmp_ne F d_N_houseOf_43 (by decide) (o_N_houseOf_55 h0 F hr hlk) (o_N_houseOf_46 h0 F hr hlk)
theorem o_N_houseOf_32 {X : ra_X} {p : Program} {l : Launch} {e : Env} {s : State} {m : MethodId} {args : Array Value} {below : List Frame} {meth : Method} {c : Code} {Z : ra_R} {c0 : ra_Sp}  (h0 : ra_MOK l X mi_N_ownerOf c0) (F : ra_Fx X p rm_N_houseOf s m args c prog_13_method_19_code 3 cn_N) (hr : meth.sig.returnType = (some .int)) (hlk : meth.locks = false) : ra_At X p l e rm_N_houseOf s m args below meth c 3 (MQ below (ra_Qc X Z) args s 0 0 (ra_A X)) (b_N_houseOf_32 c0 Z) 32 :=
  r_aload_n F d_N_houseOf_32 rfl <| r_getR F cg_N (j := 5) (by decide) rfl fl_N_22 d_N_houseOf_33 <| r_iload_n F d_N_houseOf_36 rfl <| r_iaload F d_N_houseOf_37 <| r_goto F d_N_houseOf_38 (by decide) (o_N_houseOf_60 h0 F hr hlk)
theorem o_N_houseOf_27 {X : ra_X} {p : Program} {l : Launch} {e : Env} {s : State} {m : MethodId} {args : Array Value} {below : List Frame} {meth : Method} {c : Code} {Z : ra_R} {c0 : ra_Sp}  (h0 : ra_MOK l X mi_N_ownerOf c0) (F : ra_Fx X p rm_N_houseOf s m args c prog_13_method_19_code 3 cn_N) (hr : meth.sig.returnType = (some .int)) (hlk : meth.locks = false) : ra_At X p l e rm_N_houseOf s m args below meth c 3 (MQ below (ra_Qc X Z) args s 0 0 (ra_A X)) (b_N_houseOf_27 c0 Z) 27 :=
  r_iload_n F d_N_houseOf_27 rfl <| r_iconst F d_N_houseOf_28 (by decide) <| r_icmp_ne F d_N_houseOf_29 (by decide) (o_N_houseOf_41 h0 F hr hlk) (o_N_houseOf_32 h0 F hr hlk)
theorem o_N_houseOf_18 {X : ra_X} {p : Program} {l : Launch} {e : Env} {s : State} {m : MethodId} {args : Array Value} {below : List Frame} {meth : Method} {c : Code} {Z : ra_R} {c0 : ra_Sp}  (h0 : ra_MOK l X mi_N_ownerOf c0) (F : ra_Fx X p rm_N_houseOf s m args c prog_13_method_19_code 3 cn_N) (hr : meth.sig.returnType = (some .int)) (hlk : meth.locks = false) : ra_At X p l e rm_N_houseOf s m args below meth c 3 (MQ below (ra_Qc X Z) args s 0 0 (ra_A X)) (b_N_houseOf_18 c0 Z) 18 :=
  r_aload_n F d_N_houseOf_18 rfl <| r_getR F cg_N (j := 4) (by decide) rfl fl_N_19 d_N_houseOf_19 <| r_iload_n F d_N_houseOf_22 rfl <| r_iaload F d_N_houseOf_23 <| r_goto F d_N_houseOf_24 (by decide) (o_N_houseOf_60 h0 F hr hlk)
theorem o_N_houseOf_13 {X : ra_X} {p : Program} {l : Launch} {e : Env} {s : State} {m : MethodId} {args : Array Value} {below : List Frame} {meth : Method} {c : Code} {Z : ra_R} {c0 : ra_Sp}  (h0 : ra_MOK l X mi_N_ownerOf c0) (F : ra_Fx X p rm_N_houseOf s m args c prog_13_method_19_code 3 cn_N) (hr : meth.sig.returnType = (some .int)) (hlk : meth.locks = false) : ra_At X p l e rm_N_houseOf s m args below meth c 3 (MQ below (ra_Qc X Z) args s 0 0 (ra_A X)) (b_N_houseOf_13 c0 Z) 13 :=
  r_iload_n F d_N_houseOf_13 rfl <| r_iconst F d_N_houseOf_14 (by decide) <| r_icmp_ne F d_N_houseOf_15 (by decide) (o_N_houseOf_27 h0 F hr hlk) (o_N_houseOf_18 h0 F hr hlk)
theorem o_N_houseOf_4 {X : ra_X} {p : Program} {l : Launch} {e : Env} {s : State} {m : MethodId} {args : Array Value} {below : List Frame} {meth : Method} {c : Code} {Z : ra_R} {c0 : ra_Sp}  (h0 : ra_MOK l X mi_N_ownerOf c0) (F : ra_Fx X p rm_N_houseOf s m args c prog_13_method_19_code 3 cn_N) (hr : meth.sig.returnType = (some .int)) (hlk : meth.locks = false) : ra_At X p l e rm_N_houseOf s m args below meth c 3 (MQ below (ra_Qc X Z) args s 0 0 (ra_A X)) (b_N_houseOf_4 c0 Z) 4 :=
  r_aload_n F d_N_houseOf_4 rfl <| r_getR F cg_N (j := 3) (by decide) rfl fl_N_16 d_N_houseOf_5 <| r_iload_n F d_N_houseOf_8 rfl <| r_iaload F d_N_houseOf_9 <| r_goto F d_N_houseOf_10 (by decide) (o_N_houseOf_60 h0 F hr hlk)
theorem o_N_houseOf_0 {X : ra_X} {p : Program} {l : Launch} {e : Env} {s : State} {m : MethodId} {args : Array Value} {below : List Frame} {meth : Method} {c : Code} {Z : ra_R} {c0 : ra_Sp}  (h0 : ra_MOK l X mi_N_ownerOf c0) (F : ra_Fx X p rm_N_houseOf s m args c prog_13_method_19_code 3 cn_N) (hr : meth.sig.returnType = (some .int)) (hlk : meth.locks = false) : ra_At X p l e rm_N_houseOf s m args below meth c 3 (MQ below (ra_Qc X Z) args s 0 0 (ra_A X)) (b_N_houseOf_0 c0 Z) 0 :=
  r_iload_n F d_N_houseOf_0 rfl <| r_if_ne F d_N_houseOf_1 (by decide) (o_N_houseOf_13 h0 F hr hlk) (o_N_houseOf_4 h0 F hr hlk)
theorem g_N_houseOf {l : Launch} {X : ra_X} {c0 : ra_Sp}  (h0 : ra_MOK l X mi_N_ownerOf c0) (sp : ra_Sp) (ve : ∀ as σ Z, ra_c1 as = true → as.length = 3 → sp as σ Z → b_N_houseOf_0 c0 Z (ra_pad 3 as) [] σ) : ra_MOK l X mi_N_houseOf sp := by
  refine ra_enter (k := fun Z as σ => b_N_houseOf_0 c0 Z) cn_N rfl (by decide +kernel) ⟨by decide +kernel, by decide +kernel⟩ (by decide +kernel) ?_ ve
  intro p e s m args below meth c Z as σ hsp F hr hlk
  exact o_N_houseOf_0 h0 F hr hlk

theorem d_N_house_0 : decode prog_13_method_20_code 0 = .ok (.aload_n 0, 1) := by decide +kernel
theorem d_N_house_1 : decode prog_13_method_20_code 1 = .ok (.iload_n 1, 1) := by decide +kernel
theorem d_N_house_2 : decode prog_13_method_20_code 2 = .ok (.invokevirtual 140, 3) := by decide +kernel
theorem d_N_house_5 : decode prog_13_method_20_code 5 = .ok (.ifCond .eq 21, 3) := by decide +kernel
theorem d_N_house_8 : decode prog_13_method_20_code 8 = .ok (.iload_n 2, 1) := by decide +kernel
theorem d_N_house_9 : decode prog_13_method_20_code 9 = .ok (.iconst 0, 1) := by decide +kernel
theorem d_N_house_10 : decode prog_13_method_20_code 10 = .ok (.iconst 4, 1) := by decide +kernel
theorem d_N_house_11 : decode prog_13_method_20_code 11 = .ok (.invokestatic 101, 3) := by decide +kernel
theorem d_N_house_14 : decode prog_13_method_20_code 14 = .ok (.ifCond .eq 12, 3) := by decide +kernel
theorem d_N_house_17 : decode prog_13_method_20_code 17 = .ok (.aload_n 0, 1) := by decide +kernel
theorem d_N_house_18 : decode prog_13_method_20_code 18 = .ok (.iload_n 1, 1) := by decide +kernel
theorem d_N_house_19 : decode prog_13_method_20_code 19 = .ok (.iload_n 2, 1) := by decide +kernel
theorem d_N_house_20 : decode prog_13_method_20_code 20 = .ok (.invokevirtual 144, 3) := by decide +kernel
theorem d_N_house_23 : decode prog_13_method_20_code 23 = .ok (.goto 5, 3) := by decide +kernel
theorem d_N_house_26 : decode prog_13_method_20_code 26 = .ok (.bipush (-2), 2) := by decide +kernel
theorem d_N_house_28 : decode prog_13_method_20_code 28 = .ok (.ireturn, 1) := by decide +kernel
def b_N_house_28 (c0 c1 c2 : ra_Sp) (Z : ra_R) : ra_K := w_ir Z
def b_N_house_26 (c0 c1 c2 : ra_Sp) (Z : ra_R) : ra_K := w_c (-2) <| (b_N_house_28 c0 c1 c2 Z)
def b_N_house_17 (c0 c1 c2 : ra_Sp) (Z : ra_R) : ra_K := w_al 0 <| w_il 1 <| w_il 2 <| w_cv c2 3 11 <| (b_N_house_28 c0 c1 c2 Z)
def b_N_house_8 (c0 c1 c2 : ra_Sp) (Z : ra_R) : ra_K := w_il 2 <| w_c 0 <| w_c 4 <| w_cs c1 3 <| w_b1 (fun x => x = 0) (b_N_house_26 c0 c1 c2 Z) (b_N_house_17 c0 c1 c2 Z)
def b_N_house_0 (c0 c1 c2 : ra_Sp) (Z : ra_R) : ra_K := w_al 0 <| w_il 1 <| w_cv c0 2 11 <| w_b1 (fun x => x = 0) (b_N_house_26 c0 c1 c2 Z) (b_N_house_8 c0 c1 c2 Z)
theorem o_N_house_28 {X : ra_X} {p : Program} {l : Launch} {e : Env} {s : State} {m : MethodId} {args : Array Value} {below : List Frame} {meth : Method} {c : Code} {Z : ra_R} {c0 c1 c2 : ra_Sp}  (h0 : ra_MOK l X mi_N_isHouse c0) (h1 : ra_MOK l X mi_N_in c1) (h2 : ra_MOK l X mi_N_houseOf c2) (F : ra_Fx X p rm_N_house s m args c prog_13_method_20_code 3 cn_N) (hr : meth.sig.returnType = (some .int)) (hlk : meth.locks = false) : ra_At X p l e rm_N_house s m args below meth c 3 (MQ below (ra_Qc X Z) args s 0 0 (ra_A X)) (b_N_house_28 c0 c1 c2 Z) 28 :=
  r_ireturn F hr hlk d_N_house_28
theorem o_N_house_26 {X : ra_X} {p : Program} {l : Launch} {e : Env} {s : State} {m : MethodId} {args : Array Value} {below : List Frame} {meth : Method} {c : Code} {Z : ra_R} {c0 c1 c2 : ra_Sp}  (h0 : ra_MOK l X mi_N_isHouse c0) (h1 : ra_MOK l X mi_N_in c1) (h2 : ra_MOK l X mi_N_houseOf c2) (F : ra_Fx X p rm_N_house s m args c prog_13_method_20_code 3 cn_N) (hr : meth.sig.returnType = (some .int)) (hlk : meth.locks = false) : ra_At X p l e rm_N_house s m args below meth c 3 (MQ below (ra_Qc X Z) args s 0 0 (ra_A X)) (b_N_house_26 c0 c1 c2 Z) 26 :=
  r_bipush F d_N_house_26 (by decide) <| (o_N_house_28 h0 h1 h2 F hr hlk)
theorem o_N_house_17 {X : ra_X} {p : Program} {l : Launch} {e : Env} {s : State} {m : MethodId} {args : Array Value} {below : List Frame} {meth : Method} {c : Code} {Z : ra_R} {c0 c1 c2 : ra_Sp}  (h0 : ra_MOK l X mi_N_isHouse c0) (h1 : ra_MOK l X mi_N_in c1) (h2 : ra_MOK l X mi_N_houseOf c2) (F : ra_Fx X p rm_N_house s m args c prog_13_method_20_code 3 cn_N) (hr : meth.sig.returnType = (some .int)) (hlk : meth.locks = false) : ra_At X p l e rm_N_house s m args below meth c 3 (MQ below (ra_Qc X Z) args s 0 0 (ra_A X)) (b_N_house_17 c0 c1 c2 Z) 17 :=
  r_aload_n F d_N_house_17 rfl <| r_iload_n F d_N_house_18 rfl <| r_iload_n F d_N_house_19 rfl <| r_callV F h2 (co_N_houseOf (by decide +kernel) (by decide +kernel)) ⟨rfl, by decide +kernel⟩ ⟨rfl, by decide⟩ ml_N_144 im_N_houseOf se_N_houseOf d_N_house_20 <| r_goto F d_N_house_23 (by decide) (o_N_house_28 h0 h1 h2 F hr hlk)
theorem o_N_house_8 {X : ra_X} {p : Program} {l : Launch} {e : Env} {s : State} {m : MethodId} {args : Array Value} {below : List Frame} {meth : Method} {c : Code} {Z : ra_R} {c0 c1 c2 : ra_Sp}  (h0 : ra_MOK l X mi_N_isHouse c0) (h1 : ra_MOK l X mi_N_in c1) (h2 : ra_MOK l X mi_N_houseOf c2) (F : ra_Fx X p rm_N_house s m args c prog_13_method_20_code 3 cn_N) (hr : meth.sig.returnType = (some .int)) (hlk : meth.locks = false) : ra_At X p l e rm_N_house s m args below meth c 3 (MQ below (ra_Qc X Z) args s 0 0 (ra_A X)) (b_N_house_8 c0 c1 c2 Z) 8 :=
  r_iload_n F d_N_house_8 rfl <| r_iconst F d_N_house_9 (by decide) <| r_iconst F d_N_house_10 (by decide) <| r_callS F h1 (co_N_in (by decide +kernel) (by decide +kernel)) ⟨rfl, by decide +kernel⟩ ml_N_101 st_N_in d_N_house_11 <| r_if_eq F d_N_house_14 (by decide) (o_N_house_26 h0 h1 h2 F hr hlk) (o_N_house_17 h0 h1 h2 F hr hlk)
theorem o_N_house_0 {X : ra_X} {p : Program} {l : Launch} {e : Env} {s : State} {m : MethodId} {args : Array Value} {below : List Frame} {meth : Method} {c : Code} {Z : ra_R} {c0 c1 c2 : ra_Sp}  (h0 : ra_MOK l X mi_N_isHouse c0) (h1 : ra_MOK l X mi_N_in c1) (h2 : ra_MOK l X mi_N_houseOf c2) (F : ra_Fx X p rm_N_house s m args c prog_13_method_20_code 3 cn_N) (hr : meth.sig.returnType = (some .int)) (hlk : meth.locks = false) : ra_At X p l e rm_N_house s m args below meth c 3 (MQ below (ra_Qc X Z) args s 0 0 (ra_A X)) (b_N_house_0 c0 c1 c2 Z) 0 :=
  r_aload_n F d_N_house_0 rfl <| r_iload_n F d_N_house_1 rfl <| r_callV F h0 (co_N_isHouse (by decide +kernel) (by decide +kernel)) ⟨rfl, by decide +kernel⟩ ⟨rfl, by decide⟩ ml_N_140 im_N_isHouse se_N_isHouse d_N_house_2 <| r_if_eq F d_N_house_5 (by decide) (o_N_house_26 h0 h1 h2 F hr hlk) (o_N_house_8 h0 h1 h2 F hr hlk)
theorem g_N_house {l : Launch} {X : ra_X} {c0 c1 c2 : ra_Sp}  (h0 : ra_MOK l X mi_N_isHouse c0) (h1 : ra_MOK l X mi_N_in c1) (h2 : ra_MOK l X mi_N_houseOf c2) (sp : ra_Sp) (ve : ∀ as σ Z, ra_c1 as = true → as.length = 3 → sp as σ Z → b_N_house_0 c0 c1 c2 Z (ra_pad 3 as) [] σ) : ra_MOK l X mi_N_house sp := by
  refine ra_enter (k := fun Z as σ => b_N_house_0 c0 c1 c2 Z) cn_N rfl (by decide +kernel) ⟨by decide +kernel, by decide +kernel⟩ (by decide +kernel) ?_ ve
  intro p e s m args below meth c Z as σ hsp F hr hlk
  exact o_N_house_0 h0 h1 h2 F hr hlk

theorem d_N_rainMore_0 : decode prog_13_method_21_code 0 = .ok (.iload_n 1, 1) := by decide +kernel
theorem d_N_rainMore_1 : decode prog_13_method_21_code 1 = .ok (.iconst 0, 1) := by decide +kernel
theorem d_N_rainMore_2 : decode prog_13_method_21_code 2 = .ok (.bipush 9, 2) := by decide +kernel
theorem d_N_rainMore_4 : decode prog_13_method_21_code 4 = .ok (.invokestatic 101, 3) := by decide +kernel
theorem d_N_rainMore_7 : decode prog_13_method_21_code 7 = .ok (.ifCond .ne 6, 3) := by decide +kernel
theorem d_N_rainMore_10 : decode prog_13_method_21_code 10 = .ok (.bipush (-2), 2) := by decide +kernel
theorem d_N_rainMore_12 : decode prog_13_method_21_code 12 = .ok (.ireturn, 1) := by decide +kernel
theorem d_N_rainMore_13 : decode prog_13_method_21_code 13 = .ok (.aload_n 0, 1) := by decide +kernel
theorem d_N_rainMore_14 : decode prog_13_method_21_code 14 = .ok (.getfield 147, 3) := by decide +kernel
theorem d_N_rainMore_17 : decode prog_13_method_21_code 17 = .ok (.bipush 12, 2) := by decide +kernel
theorem d_N_rainMore_19 : decode prog_13_method_21_code 19 = .ok (.if_icmp .ne 6, 3) := by decide +kernel
theorem d_N_rainMore_22 : decode prog_13_method_21_code 22 = .ok (.bipush (-4), 2) := by decide +kernel
theorem d_N_rainMore_24 : decode prog_13_method_21_code 24 = .ok (.ireturn, 1) := by decide +kernel
theorem d_N_rainMore_25 : decode prog_13_method_21_code 25 = .ok (.aload_n 0, 1) := by decide +kernel
theorem d_N_rainMore_26 : decode prog_13_method_21_code 26 = .ok (.getfield 28, 3) := by decide +kernel
theorem d_N_rainMore_29 : decode prog_13_method_21_code 29 = .ok (.aload_n 0, 1) := by decide +kernel
theorem d_N_rainMore_30 : decode prog_13_method_21_code 30 = .ok (.getfield 147, 3) := by decide +kernel
theorem d_N_rainMore_33 : decode prog_13_method_21_code 33 = .ok (.iload_n 1, 1) := by decide +kernel
theorem d_N_rainMore_34 : decode prog_13_method_21_code 34 = .ok (.iastore, 1) := by decide +kernel
theorem d_N_rainMore_35 : decode prog_13_method_21_code 35 = .ok (.aload_n 0, 1) := by decide +kernel
theorem d_N_rainMore_36 : decode prog_13_method_21_code 36 = .ok (.dup, 1) := by decide +kernel
theorem d_N_rainMore_37 : decode prog_13_method_21_code 37 = .ok (.getfield 147, 3) := by decide +kernel
theorem d_N_rainMore_40 : decode prog_13_method_21_code 40 = .ok (.iconst 1, 1) := by decide +kernel
theorem d_N_rainMore_41 : decode prog_13_method_21_code 41 = .ok (.iadd, 1) := by decide +kernel
theorem d_N_rainMore_42 : decode prog_13_method_21_code 42 = .ok (.putfield 147, 3) := by decide +kernel
theorem d_N_rainMore_45 : decode prog_13_method_21_code 45 = .ok (.aload_n 0, 1) := by decide +kernel
theorem d_N_rainMore_46 : decode prog_13_method_21_code 46 = .ok (.getfield 147, 3) := by decide +kernel
theorem d_N_rainMore_49 : decode prog_13_method_21_code 49 = .ok (.ireturn, 1) := by decide +kernel
def b_N_rainMore_25 (c0 : ra_Sp) (Z : ra_R) : ra_K := w_al 0 <| w_gr 11 8 <| w_al 0 <| w_gi 11 7 <| w_il 1 <| w_ast <| w_al 0 <| w_dup <| w_gi 11 7 <| w_c 1 <| w_i2 (fun x y => x + y) <| w_pi 11 7 <| w_al 0 <| w_gi 11 7 <| w_ir Z
def b_N_rainMore_22 (c0 : ra_Sp) (Z : ra_R) : ra_K := w_c (-4) <| w_ir Z
def b_N_rainMore_13 (c0 : ra_Sp) (Z : ra_R) : ra_K := w_al 0 <| w_gi 11 7 <| w_c 12 <| w_b2 (fun x y => x = y) (b_N_rainMore_22 c0 Z) (b_N_rainMore_25 c0 Z)
def b_N_rainMore_10 (c0 : ra_Sp) (Z : ra_R) : ra_K := w_c (-2) <| w_ir Z
def b_N_rainMore_0 (c0 : ra_Sp) (Z : ra_R) : ra_K := w_il 1 <| w_c 0 <| w_c 9 <| w_cs c0 3 <| w_b1 (fun x => x = 0) (b_N_rainMore_10 c0 Z) (b_N_rainMore_13 c0 Z)
theorem o_N_rainMore_25 {X : ra_X} {p : Program} {l : Launch} {e : Env} {s : State} {m : MethodId} {args : Array Value} {below : List Frame} {meth : Method} {c : Code} {Z : ra_R} {c0 : ra_Sp}  (h0 : ra_MOK l X mi_N_in c0) (F : ra_Fx X p rm_N_rainMore s m args c prog_13_method_21_code 2 cn_N) (hr : meth.sig.returnType = (some .int)) (hlk : meth.locks = false) : ra_At X p l e rm_N_rainMore s m args below meth c 2 (MQ below (ra_Qc X Z) args s 0 0 (ra_A X)) (b_N_rainMore_25 c0 Z) 25 :=
  r_aload_n F d_N_rainMore_25 rfl <| r_getR F cg_N (j := 8) (by decide) rfl fl_N_28 d_N_rainMore_26 <| r_aload_n F d_N_rainMore_29 rfl <| r_getI F cg_N (j := 7) (by decide) rfl fl_N_147 d_N_rainMore_30 <| r_iload_n F d_N_rainMore_33 rfl <| r_iastore F d_N_rainMore_34 <| r_aload_n F d_N_rainMore_35 rfl <| r_dup F d_N_rainMore_36 <| r_getI F cg_N (j := 7) (by decide) rfl fl_N_147 d_N_rainMore_37 <| r_iconst F d_N_rainMore_40 (by decide) <| r_iadd F d_N_rainMore_41 <| r_putI F cg_N (j := 7) (by decide) rfl rfl rfl fl_N_147 d_N_rainMore_42 <| r_aload_n F d_N_rainMore_45 rfl <| r_getI F cg_N (j := 7) (by decide) rfl fl_N_147 d_N_rainMore_46 <| r_ireturn F hr hlk d_N_rainMore_49
theorem o_N_rainMore_22 {X : ra_X} {p : Program} {l : Launch} {e : Env} {s : State} {m : MethodId} {args : Array Value} {below : List Frame} {meth : Method} {c : Code} {Z : ra_R} {c0 : ra_Sp}  (h0 : ra_MOK l X mi_N_in c0) (F : ra_Fx X p rm_N_rainMore s m args c prog_13_method_21_code 2 cn_N) (hr : meth.sig.returnType = (some .int)) (hlk : meth.locks = false) : ra_At X p l e rm_N_rainMore s m args below meth c 2 (MQ below (ra_Qc X Z) args s 0 0 (ra_A X)) (b_N_rainMore_22 c0 Z) 22 :=
  r_bipush F d_N_rainMore_22 (by decide) <| r_ireturn F hr hlk d_N_rainMore_24
theorem o_N_rainMore_13 {X : ra_X} {p : Program} {l : Launch} {e : Env} {s : State} {m : MethodId} {args : Array Value} {below : List Frame} {meth : Method} {c : Code} {Z : ra_R} {c0 : ra_Sp}  (h0 : ra_MOK l X mi_N_in c0) (F : ra_Fx X p rm_N_rainMore s m args c prog_13_method_21_code 2 cn_N) (hr : meth.sig.returnType = (some .int)) (hlk : meth.locks = false) : ra_At X p l e rm_N_rainMore s m args below meth c 2 (MQ below (ra_Qc X Z) args s 0 0 (ra_A X)) (b_N_rainMore_13 c0 Z) 13 :=
  r_aload_n F d_N_rainMore_13 rfl <| r_getI F cg_N (j := 7) (by decide) rfl fl_N_147 d_N_rainMore_14 <| r_bipush F d_N_rainMore_17 (by decide) <| r_icmp_ne F d_N_rainMore_19 (by decide) (o_N_rainMore_25 h0 F hr hlk) (o_N_rainMore_22 h0 F hr hlk)
theorem o_N_rainMore_10 {X : ra_X} {p : Program} {l : Launch} {e : Env} {s : State} {m : MethodId} {args : Array Value} {below : List Frame} {meth : Method} {c : Code} {Z : ra_R} {c0 : ra_Sp}  (h0 : ra_MOK l X mi_N_in c0) (F : ra_Fx X p rm_N_rainMore s m args c prog_13_method_21_code 2 cn_N) (hr : meth.sig.returnType = (some .int)) (hlk : meth.locks = false) : ra_At X p l e rm_N_rainMore s m args below meth c 2 (MQ below (ra_Qc X Z) args s 0 0 (ra_A X)) (b_N_rainMore_10 c0 Z) 10 :=
  r_bipush F d_N_rainMore_10 (by decide) <| r_ireturn F hr hlk d_N_rainMore_12
theorem o_N_rainMore_0 {X : ra_X} {p : Program} {l : Launch} {e : Env} {s : State} {m : MethodId} {args : Array Value} {below : List Frame} {meth : Method} {c : Code} {Z : ra_R} {c0 : ra_Sp}  (h0 : ra_MOK l X mi_N_in c0) (F : ra_Fx X p rm_N_rainMore s m args c prog_13_method_21_code 2 cn_N) (hr : meth.sig.returnType = (some .int)) (hlk : meth.locks = false) : ra_At X p l e rm_N_rainMore s m args below meth c 2 (MQ below (ra_Qc X Z) args s 0 0 (ra_A X)) (b_N_rainMore_0 c0 Z) 0 :=
  r_iload_n F d_N_rainMore_0 rfl <| r_iconst F d_N_rainMore_1 (by decide) <| r_bipush F d_N_rainMore_2 (by decide) <| r_callS F h0 (co_N_in (by decide +kernel) (by decide +kernel)) ⟨rfl, by decide +kernel⟩ ml_N_101 st_N_in d_N_rainMore_4 <| r_if_ne F d_N_rainMore_7 (by decide) (o_N_rainMore_13 h0 F hr hlk) (o_N_rainMore_10 h0 F hr hlk)
theorem g_N_rainMore {l : Launch} {X : ra_X} {c0 : ra_Sp}  (h0 : ra_MOK l X mi_N_in c0) (sp : ra_Sp) (ve : ∀ as σ Z, ra_c1 as = true → as.length = 2 → sp as σ Z → b_N_rainMore_0 c0 Z (ra_pad 2 as) [] σ) : ra_MOK l X mi_N_rainMore sp := by
  refine ra_enter (k := fun Z as σ => b_N_rainMore_0 c0 Z) cn_N rfl (by decide +kernel) ⟨by decide +kernel, by decide +kernel⟩ (by decide +kernel) ?_ ve
  intro p e s m args below meth c Z as σ hsp F hr hlk
  exact o_N_rainMore_0 h0 F hr hlk

theorem d_N_rain_0 : decode prog_13_method_22_code 0 = .ok (.aload_n 0, 1) := by decide +kernel
theorem d_N_rain_1 : decode prog_13_method_22_code 1 = .ok (.iload_n 1, 1) := by decide +kernel
theorem d_N_rain_2 : decode prog_13_method_22_code 2 = .ok (.invokevirtual 150, 3) := by decide +kernel
theorem d_N_rain_5 : decode prog_13_method_22_code 5 = .ok (.ireturn, 1) := by decide +kernel
def b_N_rain_0 (c0 : ra_Sp) (Z : ra_R) : ra_K := w_al 0 <| w_il 1 <| w_cv c0 2 11 <| w_ir Z
theorem o_N_rain_0 {X : ra_X} {p : Program} {l : Launch} {e : Env} {s : State} {m : MethodId} {args : Array Value} {below : List Frame} {meth : Method} {c : Code} {Z : ra_R} {c0 : ra_Sp}  (h0 : ra_MOK l X mi_N_rainMore c0) (F : ra_Fx X p rm_N_rain s m args c prog_13_method_22_code 2 cn_N) (hr : meth.sig.returnType = (some .int)) (hlk : meth.locks = false) : ra_At X p l e rm_N_rain s m args below meth c 2 (MQ below (ra_Qc X Z) args s 0 0 (ra_A X)) (b_N_rain_0 c0 Z) 0 :=
  r_aload_n F d_N_rain_0 rfl <| r_iload_n F d_N_rain_1 rfl <| r_callV F h0 (co_N_rainMore (by decide +kernel) (by decide +kernel)) ⟨rfl, by decide +kernel⟩ ⟨rfl, by decide⟩ ml_N_150 im_N_rainMore se_N_rainMore d_N_rain_2 <| r_ireturn F hr hlk d_N_rain_5
theorem g_N_rain {l : Launch} {X : ra_X} {c0 : ra_Sp}  (h0 : ra_MOK l X mi_N_rainMore c0) (sp : ra_Sp) (ve : ∀ as σ Z, ra_c1 as = true → as.length = 2 → sp as σ Z → b_N_rain_0 c0 Z (ra_pad 2 as) [] σ) : ra_MOK l X mi_N_rain sp := by
  refine ra_enter (k := fun Z as σ => b_N_rain_0 c0 Z) cn_N rfl (by decide +kernel) ⟨by decide +kernel, by decide +kernel⟩ (by decide +kernel) ?_ ve
  intro p e s m args below meth c Z as σ hsp F hr hlk
  exact o_N_rain_0 h0 F hr hlk

theorem d_N_isSheet_0 : decode prog_13_method_65_code 0 = .ok (.iload_n 0, 1) := by decide +kernel
theorem d_N_isSheet_1 : decode prog_13_method_65_code 1 = .ok (.iconst 0, 1) := by decide +kernel
theorem d_N_isSheet_2 : decode prog_13_method_65_code 2 = .ok (.iconst 3, 1) := by decide +kernel
theorem d_N_isSheet_3 : decode prog_13_method_65_code 3 = .ok (.invokestatic 101, 3) := by decide +kernel
theorem d_N_isSheet_6 : decode prog_13_method_65_code 6 = .ok (.ireturn, 1) := by decide +kernel
def b_N_isSheet_0 (c0 : ra_Sp) (Z : ra_R) : ra_K := w_il 0 <| w_c 0 <| w_c 3 <| w_cs c0 3 <| w_zr Z
theorem o_N_isSheet_0 {X : ra_X} {p : Program} {l : Launch} {e : Env} {s : State} {m : MethodId} {args : Array Value} {below : List Frame} {meth : Method} {c : Code} {Z : ra_R} {c0 : ra_Sp}  (h0 : ra_MOK l X mi_N_in c0) (F : ra_Fx X p rm_N_isSheet s m args c prog_13_method_65_code 1 cn_N) (hr : meth.sig.returnType = (some .boolean)) (hlk : meth.locks = false) : ra_At X p l e rm_N_isSheet s m args below meth c 1 (MQ below (ra_Qc X Z) args s 0 0 (ra_A X)) (b_N_isSheet_0 c0 Z) 0 :=
  r_iload_n F d_N_isSheet_0 rfl <| r_iconst F d_N_isSheet_1 (by decide) <| r_iconst F d_N_isSheet_2 (by decide) <| r_callS F h0 (co_N_in (by decide +kernel) (by decide +kernel)) ⟨rfl, by decide +kernel⟩ ml_N_101 st_N_in d_N_isSheet_3 <| r_zreturn F hr hlk d_N_isSheet_6
theorem g_N_isSheet {l : Launch} {X : ra_X} {c0 : ra_Sp}  (h0 : ra_MOK l X mi_N_in c0) (sp : ra_Sp) (ve : ∀ as σ Z, ra_c1 as = true → as.length = 1 → sp as σ Z → b_N_isSheet_0 c0 Z (ra_pad 1 as) [] σ) : ra_MOK l X mi_N_isSheet sp := by
  refine ra_enter (k := fun Z as σ => b_N_isSheet_0 c0 Z) cn_N rfl (by decide +kernel) ⟨by decide +kernel, by decide +kernel⟩ (by decide +kernel) ?_ ve
  intro p e s m args below meth c Z as σ hsp F hr hlk
  exact o_N_isSheet_0 h0 F hr hlk

theorem d_N_meets_0 : decode prog_13_method_64_code 0 = .ok (.aload_n 0, 1) := by decide +kernel
theorem d_N_meets_1 : decode prog_13_method_64_code 1 = .ok (.iload_n 1, 1) := by decide +kernel
theorem d_N_meets_2 : decode prog_13_method_64_code 2 = .ok (.putfield 230, 3) := by decide +kernel
theorem d_N_meets_5 : decode prog_13_method_64_code 5 = .ok (.bipush (-10), 2) := by decide +kernel
theorem d_N_meets_7 : decode prog_13_method_64_code 7 = .ok (.iload_n 1, 1) := by decide +kernel
theorem d_N_meets_8 : decode prog_13_method_64_code 8 = .ok (.isub, 1) := by decide +kernel
theorem d_N_meets_9 : decode prog_13_method_64_code 9 = .ok (.ireturn, 1) := by decide +kernel
def b_N_meets_0 (Z : ra_R) : ra_K := w_al 0 <| w_il 1 <| w_pi 11 33 <| w_c (-10) <| w_il 1 <| w_i2 (fun x y => x - y) <| w_ir Z
theorem o_N_meets_0 {X : ra_X} {p : Program} {l : Launch} {e : Env} {s : State} {m : MethodId} {args : Array Value} {below : List Frame} {meth : Method} {c : Code} {Z : ra_R}  (F : ra_Fx X p rm_N_meets s m args c prog_13_method_64_code 2 cn_N) (hr : meth.sig.returnType = (some .int)) (hlk : meth.locks = false) : ra_At X p l e rm_N_meets s m args below meth c 2 (MQ below (ra_Qc X Z) args s 0 0 (ra_A X)) (b_N_meets_0 Z) 0 :=
  r_aload_n F d_N_meets_0 rfl <| r_iload_n F d_N_meets_1 rfl <| r_putI F cg_N (j := 33) (by decide) rfl rfl rfl fl_N_230 d_N_meets_2 <| r_bipush F d_N_meets_5 (by decide) <| r_iload_n F d_N_meets_7 rfl <| r_isub F d_N_meets_8 <| r_ireturn F hr hlk d_N_meets_9
theorem g_N_meets {l : Launch} {X : ra_X}  (sp : ra_Sp) (ve : ∀ as σ Z, ra_c1 as = true → as.length = 2 → sp as σ Z → b_N_meets_0 Z (ra_pad 2 as) [] σ) : ra_MOK l X mi_N_meets sp := by
  refine ra_enter (k := fun Z as σ => b_N_meets_0 Z) cn_N rfl (by decide +kernel) ⟨by decide +kernel, by decide +kernel⟩ (by decide +kernel) ?_ ve
  intro p e s m args below meth c Z as σ hsp F hr hlk
  exact o_N_meets_0 F hr hlk

theorem d_N_read_0 : decode prog_13_method_23_code 0 = .ok (.iload_n 1, 1) := by decide +kernel
theorem d_N_read_1 : decode prog_13_method_23_code 1 = .ok (.invokestatic 153, 3) := by decide +kernel
theorem d_N_read_4 : decode prog_13_method_23_code 4 = .ok (.ifCond .ne 6, 3) := by decide +kernel
theorem d_N_read_7 : decode prog_13_method_23_code 7 = .ok (.bipush (-2), 2) := by decide +kernel
theorem d_N_read_9 : decode prog_13_method_23_code 9 = .ok (.ireturn, 1) := by decide +kernel
theorem d_N_read_10 : decode prog_13_method_23_code 10 = .ok (.aload_n 0, 1) := by decide +kernel
theorem d_N_read_11 : decode prog_13_method_23_code 11 = .ok (.getfield 85, 3) := by decide +kernel
theorem d_N_read_14 : decode prog_13_method_23_code 14 = .ok (.iload_n 1, 1) := by decide +kernel
theorem d_N_read_15 : decode prog_13_method_23_code 15 = .ok (.baload, 1) := by decide +kernel
theorem d_N_read_16 : decode prog_13_method_23_code 16 = .ok (.ifCond .ne 9, 3) := by decide +kernel
theorem d_N_read_19 : decode prog_13_method_23_code 19 = .ok (.aload_n 0, 1) := by decide +kernel
theorem d_N_read_20 : decode prog_13_method_23_code 20 = .ok (.iconst 1, 1) := by decide +kernel
theorem d_N_read_21 : decode prog_13_method_23_code 21 = .ok (.invokevirtual 156, 3) := by decide +kernel
theorem d_N_read_24 : decode prog_13_method_23_code 24 = .ok (.ireturn, 1) := by decide +kernel
theorem d_N_read_25 : decode prog_13_method_23_code 25 = .ok (.iconst 0, 1) := by decide +kernel
theorem d_N_read_26 : decode prog_13_method_23_code 26 = .ok (.istore_n 2, 1) := by decide +kernel
theorem d_N_read_27 : decode prog_13_method_23_code 27 = .ok (.iload_n 2, 1) := by decide +kernel
theorem d_N_read_28 : decode prog_13_method_23_code 28 = .ok (.aload_n 0, 1) := by decide +kernel
theorem d_N_read_29 : decode prog_13_method_23_code 29 = .ok (.getfield 92, 3) := by decide +kernel
theorem d_N_read_32 : decode prog_13_method_23_code 32 = .ok (.iload_n 1, 1) := by decide +kernel
theorem d_N_read_33 : decode prog_13_method_23_code 33 = .ok (.iaload, 1) := by decide +kernel
theorem d_N_read_34 : decode prog_13_method_23_code 34 = .ok (.if_icmp .ge 27, 3) := by decide +kernel
theorem d_N_read_37 : decode prog_13_method_23_code 37 = .ok (.aload_n 0, 1) := by decide +kernel
theorem d_N_read_38 : decode prog_13_method_23_code 38 = .ok (.aload_n 0, 1) := by decide +kernel
theorem d_N_read_39 : decode prog_13_method_23_code 39 = .ok (.getfield 95, 3) := by decide +kernel
theorem d_N_read_42 : decode prog_13_method_23_code 42 = .ok (.bipush 48, 2) := by decide +kernel
theorem d_N_read_44 : decode prog_13_method_23_code 44 = .ok (.iload_n 1, 1) := by decide +kernel
theorem d_N_read_45 : decode prog_13_method_23_code 45 = .ok (.imul, 1) := by decide +kernel
theorem d_N_read_46 : decode prog_13_method_23_code 46 = .ok (.iload_n 2, 1) := by decide +kernel
theorem d_N_read_47 : decode prog_13_method_23_code 47 = .ok (.iadd, 1) := by decide +kernel
theorem d_N_read_48 : decode prog_13_method_23_code 48 = .ok (.iaload, 1) := by decide +kernel
theorem d_N_read_49 : decode prog_13_method_23_code 49 = .ok (.invokevirtual 150, 3) := by decide +kernel
theorem d_N_read_52 : decode prog_13_method_23_code 52 = .ok (.ifCond .le 9, 3) := by decide +kernel
theorem d_N_read_55 : decode prog_13_method_23_code 55 = .ok (.iinc 2 1, 3) := by decide +kernel
theorem d_N_read_58 : decode prog_13_method_23_code 58 = .ok (.goto (-31), 3) := by decide +kernel
theorem d_N_read_61 : decode prog_13_method_23_code 61 = .ok (.iload_n 2, 1) := by decide +kernel
theorem d_N_read_62 : decode prog_13_method_23_code 62 = .ok (.ireturn, 1) := by decide +kernel
def b_N_read_61 (c0 c1 c2 : ra_Sp) (I : Nat → ra_K) (Z : ra_R) : ra_K := w_il 2 <| w_ir Z
def b_N_read_55 (c0 c1 c2 : ra_Sp) (I : Nat → ra_K) (Z : ra_R) : ra_K := w_inc 2 1 <| (I 27)
def b_N_read_37 (c0 c1 c2 : ra_Sp) (I : Nat → ra_K) (Z : ra_R) : ra_K := w_al 0 <| w_al 0 <| w_gr 11 31 <| w_c 48 <| w_il 1 <| w_i2 (fun x y => x * y) <| w_il 2 <| w_i2 (fun x y => x + y) <| w_ald <| w_cv c2 2 11 <| w_b1 (fun x => x ≤ 0) (b_N_read_61 c0 c1 c2 I Z) (b_N_read_55 c0 c1 c2 I Z)
def b_N_read_27 (c0 c1 c2 : ra_Sp) (I : Nat → ra_K) (Z : ra_R) : ra_K := w_il 2 <| w_al 0 <| w_gr 11 30 <| w_il 1 <| w_ald <| w_b2 (fun x y => y ≤ x) (b_N_read_61 c0 c1 c2 I Z) (b_N_read_37 c0 c1 c2 I Z)
def b_N_read_25 (c0 c1 c2 : ra_Sp) (I : Nat → ra_K) (Z : ra_R) : ra_K := w_c 0 <| w_is 2 <| (I 27)
def b_N_read_19 (c0 c1 c2 : ra_Sp) (I : Nat → ra_K) (Z : ra_R) : ra_K := w_al 0 <| w_c 1 <| w_cv c1 2 11 <| w_ir Z
def b_N_read_10 (c0 c1 c2 : ra_Sp) (I : Nat → ra_K) (Z : ra_R) : ra_K := w_al 0 <| w_gr 11 28 <| w_il 1 <| w_zld <| w_b1 (fun x => x = 0) (b_N_read_19 c0 c1 c2 I Z) (b_N_read_25 c0 c1 c2 I Z)
def b_N_read_7 (c0 c1 c2 : ra_Sp) (I : Nat → ra_K) (Z : ra_R) : ra_K := w_c (-2) <| w_ir Z
def b_N_read_0 (c0 c1 c2 : ra_Sp) (I : Nat → ra_K) (Z : ra_R) : ra_K := w_il 1 <| w_cs c0 1 <| w_b1 (fun x => x = 0) (b_N_read_7 c0 c1 c2 I Z) (b_N_read_10 c0 c1 c2 I Z)
theorem o_N_read_61 {X : ra_X} {p : Program} {l : Launch} {e : Env} {s : State} {m : MethodId} {args : Array Value} {below : List Frame} {meth : Method} {c : Code} {Z : ra_R} {c0 c1 c2 : ra_Sp}  (h0 : ra_MOK l X mi_N_isSheet c0) (h1 : ra_MOK l X mi_N_meets c1) (h2 : ra_MOK l X mi_N_rainMore c2) (F : ra_Fx X p rm_N_read s m args c prog_13_method_23_code 3 cn_N) (hr : meth.sig.returnType = (some .int)) (hlk : meth.locks = false) {I : Nat → ra_K} (hI : ∀ t ∈ [27], ra_At X p l e rm_N_read s m args below meth c 3 (MQ below (ra_Qc X Z) args s 0 0 (ra_A X)) (I t) t) : ra_At X p l e rm_N_read s m args below meth c 3 (MQ below (ra_Qc X Z) args s 0 0 (ra_A X)) (b_N_read_61 c0 c1 c2 I Z) 61 :=
  r_iload_n F d_N_read_61 rfl <| r_ireturn F hr hlk d_N_read_62
theorem o_N_read_55 {X : ra_X} {p : Program} {l : Launch} {e : Env} {s : State} {m : MethodId} {args : Array Value} {below : List Frame} {meth : Method} {c : Code} {Z : ra_R} {c0 c1 c2 : ra_Sp}  (h0 : ra_MOK l X mi_N_isSheet c0) (h1 : ra_MOK l X mi_N_meets c1) (h2 : ra_MOK l X mi_N_rainMore c2) (F : ra_Fx X p rm_N_read s m args c prog_13_method_23_code 3 cn_N) (hr : meth.sig.returnType = (some .int)) (hlk : meth.locks = false) {I : Nat → ra_K} (hI : ∀ t ∈ [27], ra_At X p l e rm_N_read s m args below meth c 3 (MQ below (ra_Qc X Z) args s 0 0 (ra_A X)) (I t) t) : ra_At X p l e rm_N_read s m args below meth c 3 (MQ below (ra_Qc X Z) args s 0 0 (ra_A X)) (b_N_read_55 c0 c1 c2 I Z) 55 :=
  r_iinc F d_N_read_55 (by decide) (by decide) <| r_goto F d_N_read_58 (by decide) (hI 27 (by decide))
theorem o_N_read_37 {X : ra_X} {p : Program} {l : Launch} {e : Env} {s : State} {m : MethodId} {args : Array Value} {below : List Frame} {meth : Method} {c : Code} {Z : ra_R} {c0 c1 c2 : ra_Sp}  (h0 : ra_MOK l X mi_N_isSheet c0) (h1 : ra_MOK l X mi_N_meets c1) (h2 : ra_MOK l X mi_N_rainMore c2) (F : ra_Fx X p rm_N_read s m args c prog_13_method_23_code 3 cn_N) (hr : meth.sig.returnType = (some .int)) (hlk : meth.locks = false) {I : Nat → ra_K} (hI : ∀ t ∈ [27], ra_At X p l e rm_N_read s m args below meth c 3 (MQ below (ra_Qc X Z) args s 0 0 (ra_A X)) (I t) t) : ra_At X p l e rm_N_read s m args below meth c 3 (MQ below (ra_Qc X Z) args s 0 0 (ra_A X)) (b_N_read_37 c0 c1 c2 I Z) 37 :=
  r_aload_n F d_N_read_37 rfl <| r_aload_n F d_N_read_38 rfl <| r_getR F cg_N (j := 31) (by decide) rfl fl_N_95 d_N_read_39 <| r_bipush F d_N_read_42 (by decide) <| r_iload_n F d_N_read_44 rfl <| r_imul F d_N_read_45 <| r_iload_n F d_N_read_46 rfl <| r_iadd F d_N_read_47 <| r_iaload F d_N_read_48 <| r_callV F h2 (co_N_rainMore (by decide +kernel) (by decide +kernel)) ⟨rfl, by decide +kernel⟩ ⟨rfl, by decide⟩ ml_N_150 im_N_rainMore se_N_rainMore d_N_read_49 <| r_if_le F d_N_read_52 (by decide) (o_N_read_61 h0 h1 h2 F hr hlk hI) (o_N_read_55 h0 h1 h2 F hr hlk hI)
theorem o_N_read_27 {X : ra_X} {p : Program} {l : Launch} {e : Env} {s : State} {m : MethodId} {args : Array Value} {below : List Frame} {meth : Method} {c : Code} {Z : ra_R} {c0 c1 c2 : ra_Sp}  (h0 : ra_MOK l X mi_N_isSheet c0) (h1 : ra_MOK l X mi_N_meets c1) (h2 : ra_MOK l X mi_N_rainMore c2) (F : ra_Fx X p rm_N_read s m args c prog_13_method_23_code 3 cn_N) (hr : meth.sig.returnType = (some .int)) (hlk : meth.locks = false) {I : Nat → ra_K} (hI : ∀ t ∈ [27], ra_At X p l e rm_N_read s m args below meth c 3 (MQ below (ra_Qc X Z) args s 0 0 (ra_A X)) (I t) t) : ra_At X p l e rm_N_read s m args below meth c 3 (MQ below (ra_Qc X Z) args s 0 0 (ra_A X)) (b_N_read_27 c0 c1 c2 I Z) 27 :=
  r_iload_n F d_N_read_27 rfl <| r_aload_n F d_N_read_28 rfl <| r_getR F cg_N (j := 30) (by decide) rfl fl_N_92 d_N_read_29 <| r_iload_n F d_N_read_32 rfl <| r_iaload F d_N_read_33 <| r_icmp_ge F d_N_read_34 (by decide) (o_N_read_61 h0 h1 h2 F hr hlk hI) (o_N_read_37 h0 h1 h2 F hr hlk hI)
theorem o_N_read_25 {X : ra_X} {p : Program} {l : Launch} {e : Env} {s : State} {m : MethodId} {args : Array Value} {below : List Frame} {meth : Method} {c : Code} {Z : ra_R} {c0 c1 c2 : ra_Sp}  (h0 : ra_MOK l X mi_N_isSheet c0) (h1 : ra_MOK l X mi_N_meets c1) (h2 : ra_MOK l X mi_N_rainMore c2) (F : ra_Fx X p rm_N_read s m args c prog_13_method_23_code 3 cn_N) (hr : meth.sig.returnType = (some .int)) (hlk : meth.locks = false) {I : Nat → ra_K} (hI : ∀ t ∈ [27], ra_At X p l e rm_N_read s m args below meth c 3 (MQ below (ra_Qc X Z) args s 0 0 (ra_A X)) (I t) t) : ra_At X p l e rm_N_read s m args below meth c 3 (MQ below (ra_Qc X Z) args s 0 0 (ra_A X)) (b_N_read_25 c0 c1 c2 I Z) 25 :=
  r_iconst F d_N_read_25 (by decide) <| r_istore_n F d_N_read_26 rfl (by decide) <| (hI 27 (by decide))
theorem o_N_read_19 {X : ra_X} {p : Program} {l : Launch} {e : Env} {s : State} {m : MethodId} {args : Array Value} {below : List Frame} {meth : Method} {c : Code} {Z : ra_R} {c0 c1 c2 : ra_Sp}  (h0 : ra_MOK l X mi_N_isSheet c0) (h1 : ra_MOK l X mi_N_meets c1) (h2 : ra_MOK l X mi_N_rainMore c2) (F : ra_Fx X p rm_N_read s m args c prog_13_method_23_code 3 cn_N) (hr : meth.sig.returnType = (some .int)) (hlk : meth.locks = false) {I : Nat → ra_K} (hI : ∀ t ∈ [27], ra_At X p l e rm_N_read s m args below meth c 3 (MQ below (ra_Qc X Z) args s 0 0 (ra_A X)) (I t) t) : ra_At X p l e rm_N_read s m args below meth c 3 (MQ below (ra_Qc X Z) args s 0 0 (ra_A X)) (b_N_read_19 c0 c1 c2 I Z) 19 :=
  r_aload_n F d_N_read_19 rfl <| r_iconst F d_N_read_20 (by decide) <| r_callV F h1 (co_N_meets (by decide +kernel) (by decide +kernel)) ⟨rfl, by decide +kernel⟩ ⟨rfl, by decide⟩ ml_N_156 im_N_meets se_N_meets d_N_read_21 <| r_ireturn F hr hlk d_N_read_24
theorem o_N_read_10 {X : ra_X} {p : Program} {l : Launch} {e : Env} {s : State} {m : MethodId} {args : Array Value} {below : List Frame} {meth : Method} {c : Code} {Z : ra_R} {c0 c1 c2 : ra_Sp}  (h0 : ra_MOK l X mi_N_isSheet c0) (h1 : ra_MOK l X mi_N_meets c1) (h2 : ra_MOK l X mi_N_rainMore c2) (F : ra_Fx X p rm_N_read s m args c prog_13_method_23_code 3 cn_N) (hr : meth.sig.returnType = (some .int)) (hlk : meth.locks = false) {I : Nat → ra_K} (hI : ∀ t ∈ [27], ra_At X p l e rm_N_read s m args below meth c 3 (MQ below (ra_Qc X Z) args s 0 0 (ra_A X)) (I t) t) : ra_At X p l e rm_N_read s m args below meth c 3 (MQ below (ra_Qc X Z) args s 0 0 (ra_A X)) (b_N_read_10 c0 c1 c2 I Z) 10 :=
  r_aload_n F d_N_read_10 rfl <| r_getR F cg_N (j := 28) (by decide) rfl fl_N_85 d_N_read_11 <| r_iload_n F d_N_read_14 rfl <| r_baload F d_N_read_15 <| r_if_ne F d_N_read_16 (by decide) (o_N_read_25 h0 h1 h2 F hr hlk hI) (o_N_read_19 h0 h1 h2 F hr hlk hI)
theorem o_N_read_7 {X : ra_X} {p : Program} {l : Launch} {e : Env} {s : State} {m : MethodId} {args : Array Value} {below : List Frame} {meth : Method} {c : Code} {Z : ra_R} {c0 c1 c2 : ra_Sp}  (h0 : ra_MOK l X mi_N_isSheet c0) (h1 : ra_MOK l X mi_N_meets c1) (h2 : ra_MOK l X mi_N_rainMore c2) (F : ra_Fx X p rm_N_read s m args c prog_13_method_23_code 3 cn_N) (hr : meth.sig.returnType = (some .int)) (hlk : meth.locks = false) {I : Nat → ra_K} (hI : ∀ t ∈ [27], ra_At X p l e rm_N_read s m args below meth c 3 (MQ below (ra_Qc X Z) args s 0 0 (ra_A X)) (I t) t) : ra_At X p l e rm_N_read s m args below meth c 3 (MQ below (ra_Qc X Z) args s 0 0 (ra_A X)) (b_N_read_7 c0 c1 c2 I Z) 7 :=
  r_bipush F d_N_read_7 (by decide) <| r_ireturn F hr hlk d_N_read_9
theorem o_N_read_0 {X : ra_X} {p : Program} {l : Launch} {e : Env} {s : State} {m : MethodId} {args : Array Value} {below : List Frame} {meth : Method} {c : Code} {Z : ra_R} {c0 c1 c2 : ra_Sp}  (h0 : ra_MOK l X mi_N_isSheet c0) (h1 : ra_MOK l X mi_N_meets c1) (h2 : ra_MOK l X mi_N_rainMore c2) (F : ra_Fx X p rm_N_read s m args c prog_13_method_23_code 3 cn_N) (hr : meth.sig.returnType = (some .int)) (hlk : meth.locks = false) {I : Nat → ra_K} (hI : ∀ t ∈ [27], ra_At X p l e rm_N_read s m args below meth c 3 (MQ below (ra_Qc X Z) args s 0 0 (ra_A X)) (I t) t) : ra_At X p l e rm_N_read s m args below meth c 3 (MQ below (ra_Qc X Z) args s 0 0 (ra_A X)) (b_N_read_0 c0 c1 c2 I Z) 0 :=
  r_iload_n F d_N_read_0 rfl <| r_callS F h0 (co_N_isSheet (by decide +kernel) (by decide +kernel)) ⟨rfl, by decide +kernel⟩ ml_N_153 st_N_isSheet d_N_read_1 <| r_if_ne F d_N_read_4 (by decide) (o_N_read_10 h0 h1 h2 F hr hlk hI) (o_N_read_7 h0 h1 h2 F hr hlk hI)
theorem g_N_read {l : Launch} {X : ra_X} {c0 c1 c2 : ra_Sp}  (h0 : ra_MOK l X mi_N_isSheet c0) (h1 : ra_MOK l X mi_N_meets c1) (h2 : ra_MOK l X mi_N_rainMore c2) (sp : ra_Sp) (I : ra_R → List Value → ra_St → Nat → ra_M → ra_K) (ve : ∀ as σ Z, ra_c1 as = true → as.length = 2 → sp as σ Z → b_N_read_0 c0 c1 c2 (ra_I (I Z as σ)) Z (ra_pad 3 as) [] σ) (v27 : ∀ as σ Z, sp as σ Z → ∀ μ L S σ1, I Z as σ 27 μ L S σ1 → b_N_read_27 c0 c1 c2 (ra_J (I Z as σ) μ) Z L S σ1) : ra_MOK l X mi_N_read sp := by
  refine ra_enter (k := fun Z as σ => b_N_read_0 c0 c1 c2 (ra_I (I Z as σ)) Z) cn_N rfl (by decide +kernel) ⟨by decide +kernel, by decide +kernel⟩ (by decide +kernel) ?_ ve
  intro p e s m args below meth c Z as σ hsp F hr hlk
  refine o_N_read_0 h0 h1 h2 F hr hlk (ra_cuts (b := fun t J => if t = 27 then b_N_read_27 c0 c1 c2 J Z else fun _ _ _ => False) ?_ ?_)
  · intro t ht J hJ
    simp only [List.mem_cons, List.not_mem_nil, or_false] at ht
    rcases ht with rfl
    · exact o_N_read_27 h0 h1 h2 F hr hlk hJ
  · intro t ht μ L S σ1 hI
    simp only [List.mem_cons, List.not_mem_nil, or_false] at ht
    rcases ht with rfl
    · exact v27 as σ Z hsp μ L S σ1 hI

theorem d_N_undo_0 : decode prog_13_method_24_code 0 = .ok (.aload_n 0, 1) := by decide +kernel
theorem d_N_undo_1 : decode prog_13_method_24_code 1 = .ok (.getfield 147, 3) := by decide +kernel
theorem d_N_undo_4 : decode prog_13_method_24_code 4 = .ok (.ifCond .ne 6, 3) := by decide +kernel
theorem d_N_undo_7 : decode prog_13_method_24_code 7 = .ok (.bipush (-3), 2) := by decide +kernel
theorem d_N_undo_9 : decode prog_13_method_24_code 9 = .ok (.ireturn, 1) := by decide +kernel
theorem d_N_undo_10 : decode prog_13_method_24_code 10 = .ok (.aload_n 0, 1) := by decide +kernel
theorem d_N_undo_11 : decode prog_13_method_24_code 11 = .ok (.dup, 1) := by decide +kernel
theorem d_N_undo_12 : decode prog_13_method_24_code 12 = .ok (.getfield 147, 3) := by decide +kernel
theorem d_N_undo_15 : decode prog_13_method_24_code 15 = .ok (.iconst 1, 1) := by decide +kernel
theorem d_N_undo_16 : decode prog_13_method_24_code 16 = .ok (.isub, 1) := by decide +kernel
theorem d_N_undo_17 : decode prog_13_method_24_code 17 = .ok (.putfield 147, 3) := by decide +kernel
theorem d_N_undo_20 : decode prog_13_method_24_code 20 = .ok (.aload_n 0, 1) := by decide +kernel
theorem d_N_undo_21 : decode prog_13_method_24_code 21 = .ok (.getfield 147, 3) := by decide +kernel
theorem d_N_undo_24 : decode prog_13_method_24_code 24 = .ok (.ireturn, 1) := by decide +kernel
def b_N_undo_10 (Z : ra_R) : ra_K := w_al 0 <| w_dup <| w_gi 11 7 <| w_c 1 <| w_i2 (fun x y => x - y) <| w_pi 11 7 <| w_al 0 <| w_gi 11 7 <| w_ir Z
def b_N_undo_7 (Z : ra_R) : ra_K := w_c (-3) <| w_ir Z
def b_N_undo_0 (Z : ra_R) : ra_K := w_al 0 <| w_gi 11 7 <| w_b1 (fun x => x = 0) (b_N_undo_7 Z) (b_N_undo_10 Z)
theorem o_N_undo_10 {X : ra_X} {p : Program} {l : Launch} {e : Env} {s : State} {m : MethodId} {args : Array Value} {below : List Frame} {meth : Method} {c : Code} {Z : ra_R}  (F : ra_Fx X p rm_N_undo s m args c prog_13_method_24_code 1 cn_N) (hr : meth.sig.returnType = (some .int)) (hlk : meth.locks = false) : ra_At X p l e rm_N_undo s m args below meth c 1 (MQ below (ra_Qc X Z) args s 0 0 (ra_A X)) (b_N_undo_10 Z) 10 :=
  r_aload_n F d_N_undo_10 rfl <| r_dup F d_N_undo_11 <| r_getI F cg_N (j := 7) (by decide) rfl fl_N_147 d_N_undo_12 <| r_iconst F d_N_undo_15 (by decide) <| r_isub F d_N_undo_16 <| r_putI F cg_N (j := 7) (by decide) rfl rfl rfl fl_N_147 d_N_undo_17 <| r_aload_n F d_N_undo_20 rfl <| r_getI F cg_N (j := 7) (by decide) rfl fl_N_147 d_N_undo_21 <| r_ireturn F hr hlk d_N_undo_24
theorem o_N_undo_7 {X : ra_X} {p : Program} {l : Launch} {e : Env} {s : State} {m : MethodId} {args : Array Value} {below : List Frame} {meth : Method} {c : Code} {Z : ra_R}  (F : ra_Fx X p rm_N_undo s m args c prog_13_method_24_code 1 cn_N) (hr : meth.sig.returnType = (some .int)) (hlk : meth.locks = false) : ra_At X p l e rm_N_undo s m args below meth c 1 (MQ below (ra_Qc X Z) args s 0 0 (ra_A X)) (b_N_undo_7 Z) 7 :=
  r_bipush F d_N_undo_7 (by decide) <| r_ireturn F hr hlk d_N_undo_9
theorem o_N_undo_0 {X : ra_X} {p : Program} {l : Launch} {e : Env} {s : State} {m : MethodId} {args : Array Value} {below : List Frame} {meth : Method} {c : Code} {Z : ra_R}  (F : ra_Fx X p rm_N_undo s m args c prog_13_method_24_code 1 cn_N) (hr : meth.sig.returnType = (some .int)) (hlk : meth.locks = false) : ra_At X p l e rm_N_undo s m args below meth c 1 (MQ below (ra_Qc X Z) args s 0 0 (ra_A X)) (b_N_undo_0 Z) 0 :=
  r_aload_n F d_N_undo_0 rfl <| r_getI F cg_N (j := 7) (by decide) rfl fl_N_147 d_N_undo_1 <| r_if_ne F d_N_undo_4 (by decide) (o_N_undo_10 F hr hlk) (o_N_undo_7 F hr hlk)
theorem g_N_undo {l : Launch} {X : ra_X}  (sp : ra_Sp) (ve : ∀ as σ Z, ra_c1 as = true → as.length = 1 → sp as σ Z → b_N_undo_0 Z (ra_pad 1 as) [] σ) : ra_MOK l X mi_N_undo sp := by
  refine ra_enter (k := fun Z as σ => b_N_undo_0 Z) cn_N rfl (by decide +kernel) ⟨by decide +kernel, by decide +kernel⟩ (by decide +kernel) ?_ ve
  intro p e s m args below meth c Z as σ hsp F hr hlk
  exact o_N_undo_0 F hr hlk

theorem d_N_set_0 : decode prog_13_method_25_code 0 = .ok (.iload_n 1, 1) := by decide +kernel
theorem d_N_set_1 : decode prog_13_method_25_code 1 = .ok (.iconst 0, 1) := by decide +kernel
theorem d_N_set_2 : decode prog_13_method_25_code 2 = .ok (.iconst 1, 1) := by decide +kernel
theorem d_N_set_3 : decode prog_13_method_25_code 3 = .ok (.invokestatic 101, 3) := by decide +kernel
theorem d_N_set_6 : decode prog_13_method_25_code 6 = .ok (.ifCond .eq 23, 3) := by decide +kernel
theorem d_N_set_9 : decode prog_13_method_25_code 9 = .ok (.iload_n 2, 1) := by decide +kernel
theorem d_N_set_10 : decode prog_13_method_25_code 10 = .ok (.iconst 1, 1) := by decide +kernel
theorem d_N_set_11 : decode prog_13_method_25_code 11 = .ok (.iload_n 1, 1) := by decide +kernel
theorem d_N_set_12 : decode prog_13_method_25_code 12 = .ok (.isub, 1) := by decide +kernel
theorem d_N_set_13 : decode prog_13_method_25_code 13 = .ok (.iload_n 1, 1) := by decide +kernel
theorem d_N_set_14 : decode prog_13_method_25_code 14 = .ok (.ifCond .ne 8, 3) := by decide +kernel
theorem d_N_set_17 : decode prog_13_method_25_code 17 = .ok (.bipush 9, 2) := by decide +kernel
theorem d_N_set_19 : decode prog_13_method_25_code 19 = .ok (.goto 4, 3) := by decide +kernel
theorem d_N_set_22 : decode prog_13_method_25_code 22 = .ok (.iconst 1, 1) := by decide +kernel
theorem d_N_set_23 : decode prog_13_method_25_code 23 = .ok (.invokestatic 101, 3) := by decide +kernel
theorem d_N_set_26 : decode prog_13_method_25_code 26 = .ok (.ifCond .ne 6, 3) := by decide +kernel
theorem d_N_set_29 : decode prog_13_method_25_code 29 = .ok (.bipush (-2), 2) := by decide +kernel
theorem d_N_set_31 : decode prog_13_method_25_code 31 = .ok (.ireturn, 1) := by decide +kernel
theorem d_N_set_32 : decode prog_13_method_25_code 32 = .ok (.aload_n 0, 1) := by decide +kernel
theorem d_N_set_33 : decode prog_13_method_25_code 33 = .ok (.getfield 31, 3) := by decide +kernel
theorem d_N_set_36 : decode prog_13_method_25_code 36 = .ok (.iload_n 1, 1) := by decide +kernel
theorem d_N_set_37 : decode prog_13_method_25_code 37 = .ok (.iaload, 1) := by decide +kernel
theorem d_N_set_38 : decode prog_13_method_25_code 38 = .ok (.istore_n 3, 1) := by decide +kernel
theorem d_N_set_39 : decode prog_13_method_25_code 39 = .ok (.aload_n 0, 1) := by decide +kernel
theorem d_N_set_40 : decode prog_13_method_25_code 40 = .ok (.getfield 31, 3) := by decide +kernel
theorem d_N_set_43 : decode prog_13_method_25_code 43 = .ok (.iload_n 1, 1) := by decide +kernel
theorem d_N_set_44 : decode prog_13_method_25_code 44 = .ok (.iload_n 2, 1) := by decide +kernel
theorem d_N_set_45 : decode prog_13_method_25_code 45 = .ok (.iastore, 1) := by decide +kernel
theorem d_N_set_46 : decode prog_13_method_25_code 46 = .ok (.iload_n 3, 1) := by decide +kernel
theorem d_N_set_47 : decode prog_13_method_25_code 47 = .ok (.ireturn, 1) := by decide +kernel
def b_N_set_32 (c0 : ra_Sp) (Z : ra_R) : ra_K := w_al 0 <| w_gr 11 9 <| w_il 1 <| w_ald <| w_is 3 <| w_al 0 <| w_gr 11 9 <| w_il 1 <| w_il 2 <| w_ast <| w_il 3 <| w_ir Z
def b_N_set_29 (c0 : ra_Sp) (Z : ra_R) : ra_K := w_c (-2) <| w_ir Z
def b_N_set_23 (c0 : ra_Sp) (Z : ra_R) : ra_K := w_cs c0 3 <| w_b1 (fun x => x = 0) (b_N_set_29 c0 Z) (b_N_set_32 c0 Z)
def b_N_set_22 (c0 : ra_Sp) (Z : ra_R) : ra_K := w_c 1 <| (b_N_set_23 c0 Z)
def b_N_set_17 (c0 : ra_Sp) (Z : ra_R) : ra_K := w_c 9 <| (b_N_set_23 c0 Z)
def b_N_set_9 (c0 : ra_Sp) (Z : ra_R) : ra_K := w_il 2 <| w_c 1 <| w_il 1 <| w_i2 (fun x y => x - y) <| w_il 1 <| w_b1 (fun x => x = 0) (b_N_set_17 c0 Z) (b_N_set_22 c0 Z)
def b_N_set_0 (c0 : ra_Sp) (Z : ra_R) : ra_K := w_il 1 <| w_c 0 <| w_c 1 <| w_cs c0 3 <| w_b1 (fun x => x = 0) (b_N_set_29 c0 Z) (b_N_set_9 c0 Z)
theorem o_N_set_32 {X : ra_X} {p : Program} {l : Launch} {e : Env} {s : State} {m : MethodId} {args : Array Value} {below : List Frame} {meth : Method} {c : Code} {Z : ra_R} {c0 : ra_Sp}  (h0 : ra_MOK l X mi_N_in c0) (F : ra_Fx X p rm_N_set s m args c prog_13_method_25_code 4 cn_N) (hr : meth.sig.returnType = (some .int)) (hlk : meth.locks = false) : ra_At X p l e rm_N_set s m args below meth c 4 (MQ below (ra_Qc X Z) args s 0 0 (ra_A X)) (b_N_set_32 c0 Z) 32 :=
  r_aload_n F d_N_set_32 rfl <| r_getR F cg_N (j := 9) (by decide) rfl fl_N_31 d_N_set_33 <| r_iload_n F d_N_set_36 rfl <| r_iaload F d_N_set_37 <| r_istore_n F d_N_set_38 rfl (by decide) <| r_aload_n F d_N_set_39 rfl <| r_getR F cg_N (j := 9) (by decide) rfl fl_N_31 d_N_set_40 <| r_iload_n F d_N_set_43 rfl <| r_iload_n F d_N_set_44 rfl <| r_iastore F d_N_set_45 <| r_iload_n F d_N_set_46 rfl <| r_ireturn F hr hlk d_N_set_47
theorem o_N_set_29 {X : ra_X} {p : Program} {l : Launch} {e : Env} {s : State} {m : MethodId} {args : Array Value} {below : List Frame} {meth : Method} {c : Code} {Z : ra_R} {c0 : ra_Sp}  (h0 : ra_MOK l X mi_N_in c0) (F : ra_Fx X p rm_N_set s m args c prog_13_method_25_code 4 cn_N) (hr : meth.sig.returnType = (some .int)) (hlk : meth.locks = false) : ra_At X p l e rm_N_set s m args below meth c 4 (MQ below (ra_Qc X Z) args s 0 0 (ra_A X)) (b_N_set_29 c0 Z) 29 :=
  r_bipush F d_N_set_29 (by decide) <| r_ireturn F hr hlk d_N_set_31
theorem o_N_set_23 {X : ra_X} {p : Program} {l : Launch} {e : Env} {s : State} {m : MethodId} {args : Array Value} {below : List Frame} {meth : Method} {c : Code} {Z : ra_R} {c0 : ra_Sp}  (h0 : ra_MOK l X mi_N_in c0) (F : ra_Fx X p rm_N_set s m args c prog_13_method_25_code 4 cn_N) (hr : meth.sig.returnType = (some .int)) (hlk : meth.locks = false) : ra_At X p l e rm_N_set s m args below meth c 4 (MQ below (ra_Qc X Z) args s 0 0 (ra_A X)) (b_N_set_23 c0 Z) 23 :=
  r_callS F h0 (co_N_in (by decide +kernel) (by decide +kernel)) ⟨rfl, by decide +kernel⟩ ml_N_101 st_N_in d_N_set_23 <| r_if_ne F d_N_set_26 (by decide) (o_N_set_32 h0 F hr hlk) (o_N_set_29 h0 F hr hlk)
theorem o_N_set_22 {X : ra_X} {p : Program} {l : Launch} {e : Env} {s : State} {m : MethodId} {args : Array Value} {below : List Frame} {meth : Method} {c : Code} {Z : ra_R} {c0 : ra_Sp}  (h0 : ra_MOK l X mi_N_in c0) (F : ra_Fx X p rm_N_set s m args c prog_13_method_25_code 4 cn_N) (hr : meth.sig.returnType = (some .int)) (hlk : meth.locks = false) : ra_At X p l e rm_N_set s m args below meth c 4 (MQ below (ra_Qc X Z) args s 0 0 (ra_A X)) (b_N_set_22 c0 Z) 22 :=
  r_iconst F d_N_set_22 (by decide) <| (o_N_set_23 h0 F hr hlk)
theorem o_N_set_17 {X : ra_X} {p : Program} {l : Launch} {e : Env} {s : State} {m : MethodId} {args : Array Value} {below : List Frame} {meth : Method} {c : Code} {Z : ra_R} {c0 : ra_Sp}  (h0 : ra_MOK l X mi_N_in c0) (F : ra_Fx X p rm_N_set s m args c prog_13_method_25_code 4 cn_N) (hr : meth.sig.returnType = (some .int)) (hlk : meth.locks = false) : ra_At X p l e rm_N_set s m args below meth c 4 (MQ below (ra_Qc X Z) args s 0 0 (ra_A X)) (b_N_set_17 c0 Z) 17 :=
  r_bipush F d_N_set_17 (by decide) <| r_goto F d_N_set_19 (by decide) (o_N_set_23 h0 F hr hlk)
theorem o_N_set_9 {X : ra_X} {p : Program} {l : Launch} {e : Env} {s : State} {m : MethodId} {args : Array Value} {below : List Frame} {meth : Method} {c : Code} {Z : ra_R} {c0 : ra_Sp}  (h0 : ra_MOK l X mi_N_in c0) (F : ra_Fx X p rm_N_set s m args c prog_13_method_25_code 4 cn_N) (hr : meth.sig.returnType = (some .int)) (hlk : meth.locks = false) : ra_At X p l e rm_N_set s m args below meth c 4 (MQ below (ra_Qc X Z) args s 0 0 (ra_A X)) (b_N_set_9 c0 Z) 9 :=
  r_iload_n F d_N_set_9 rfl <| r_iconst F d_N_set_10 (by decide) <| r_iload_n F d_N_set_11 rfl <| r_isub F d_N_set_12 <| r_iload_n F d_N_set_13 rfl <| r_if_ne F d_N_set_14 (by decide) (o_N_set_22 h0 F hr hlk) (o_N_set_17 h0 F hr hlk)
theorem o_N_set_0 {X : ra_X} {p : Program} {l : Launch} {e : Env} {s : State} {m : MethodId} {args : Array Value} {below : List Frame} {meth : Method} {c : Code} {Z : ra_R} {c0 : ra_Sp}  (h0 : ra_MOK l X mi_N_in c0) (F : ra_Fx X p rm_N_set s m args c prog_13_method_25_code 4 cn_N) (hr : meth.sig.returnType = (some .int)) (hlk : meth.locks = false) : ra_At X p l e rm_N_set s m args below meth c 4 (MQ below (ra_Qc X Z) args s 0 0 (ra_A X)) (b_N_set_0 c0 Z) 0 :=
  r_iload_n F d_N_set_0 rfl <| r_iconst F d_N_set_1 (by decide) <| r_iconst F d_N_set_2 (by decide) <| r_callS F h0 (co_N_in (by decide +kernel) (by decide +kernel)) ⟨rfl, by decide +kernel⟩ ml_N_101 st_N_in d_N_set_3 <| r_if_eq F d_N_set_6 (by decide) (o_N_set_29 h0 F hr hlk) (o_N_set_9 h0 F hr hlk)
theorem g_N_set {l : Launch} {X : ra_X} {c0 : ra_Sp}  (h0 : ra_MOK l X mi_N_in c0) (sp : ra_Sp) (ve : ∀ as σ Z, ra_c1 as = true → as.length = 3 → sp as σ Z → b_N_set_0 c0 Z (ra_pad 4 as) [] σ) : ra_MOK l X mi_N_set sp := by
  refine ra_enter (k := fun Z as σ => b_N_set_0 c0 Z) cn_N rfl (by decide +kernel) ⟨by decide +kernel, by decide +kernel⟩ (by decide +kernel) ?_ ve
  intro p e s m args below meth c Z as σ hsp F hr hlk
  exact o_N_set_0 h0 F hr hlk

theorem d_N_isAt_0 : decode prog_13_method_30_code 0 = .ok (.aload_n 0, 1) := by decide +kernel
theorem d_N_isAt_1 : decode prog_13_method_30_code 1 = .ok (.iload_n 1, 1) := by decide +kernel
theorem d_N_isAt_2 : decode prog_13_method_30_code 2 = .ok (.invokevirtual 140, 3) := by decide +kernel
theorem d_N_isAt_5 : decode prog_13_method_30_code 5 = .ok (.ifCond .eq 19, 3) := by decide +kernel
theorem d_N_isAt_8 : decode prog_13_method_30_code 8 = .ok (.iload_n 2, 1) := by decide +kernel
theorem d_N_isAt_9 : decode prog_13_method_30_code 9 = .ok (.iconst 0, 1) := by decide +kernel
theorem d_N_isAt_10 : decode prog_13_method_30_code 10 = .ok (.aload_n 0, 1) := by decide +kernel
theorem d_N_isAt_11 : decode prog_13_method_30_code 11 = .ok (.getfield 147, 3) := by decide +kernel
theorem d_N_isAt_14 : decode prog_13_method_30_code 14 = .ok (.invokestatic 101, 3) := by decide +kernel
theorem d_N_isAt_17 : decode prog_13_method_30_code 17 = .ok (.ifCond .eq 7, 3) := by decide +kernel
theorem d_N_isAt_20 : decode prog_13_method_30_code 20 = .ok (.iconst 1, 1) := by decide +kernel
theorem d_N_isAt_21 : decode prog_13_method_30_code 21 = .ok (.goto 4, 3) := by decide +kernel
theorem d_N_isAt_24 : decode prog_13_method_30_code 24 = .ok (.iconst 0, 1) := by decide +kernel
theorem d_N_isAt_25 : decode prog_13_method_30_code 25 = .ok (.ireturn, 1) := by decide +kernel
def b_N_isAt_25 (c0 c1 : ra_Sp) (Z : ra_R) : ra_K := w_zr Z
def b_N_isAt_24 (c0 c1 : ra_Sp) (Z : ra_R) : ra_K := w_c 0 <| (b_N_isAt_25 c0 c1 Z)
def b_N_isAt_20 (c0 c1 : ra_Sp) (Z : ra_R) : ra_K := w_c 1 <| (b_N_isAt_25 c0 c1 Z)
def b_N_isAt_8 (c0 c1 : ra_Sp) (Z : ra_R) : ra_K := w_il 2 <| w_c 0 <| w_al 0 <| w_gi 11 7 <| w_cs c1 3 <| w_b1 (fun x => x = 0) (b_N_isAt_24 c0 c1 Z) (b_N_isAt_20 c0 c1 Z)
def b_N_isAt_0 (c0 c1 : ra_Sp) (Z : ra_R) : ra_K := w_al 0 <| w_il 1 <| w_cv c0 2 11 <| w_b1 (fun x => x = 0) (b_N_isAt_24 c0 c1 Z) (b_N_isAt_8 c0 c1 Z)
theorem o_N_isAt_25 {X : ra_X} {p : Program} {l : Launch} {e : Env} {s : State} {m : MethodId} {args : Array Value} {below : List Frame} {meth : Method} {c : Code} {Z : ra_R} {c0 c1 : ra_Sp}  (h0 : ra_MOK l X mi_N_isHouse c0) (h1 : ra_MOK l X mi_N_in c1) (F : ra_Fx X p rm_N_isAt s m args c prog_13_method_30_code 3 cn_N) (hr : meth.sig.returnType = (some .boolean)) (hlk : meth.locks = false) : ra_At X p l e rm_N_isAt s m args below meth c 3 (MQ below (ra_Qc X Z) args s 0 0 (ra_A X)) (b_N_isAt_25 c0 c1 Z) 25 :=
  r_zreturn F hr hlk d_N_isAt_25
theorem o_N_isAt_24 {X : ra_X} {p : Program} {l : Launch} {e : Env} {s : State} {m : MethodId} {args : Array Value} {below : List Frame} {meth : Method} {c : Code} {Z : ra_R} {c0 c1 : ra_Sp}  (h0 : ra_MOK l X mi_N_isHouse c0) (h1 : ra_MOK l X mi_N_in c1) (F : ra_Fx X p rm_N_isAt s m args c prog_13_method_30_code 3 cn_N) (hr : meth.sig.returnType = (some .boolean)) (hlk : meth.locks = false) : ra_At X p l e rm_N_isAt s m args below meth c 3 (MQ below (ra_Qc X Z) args s 0 0 (ra_A X)) (b_N_isAt_24 c0 c1 Z) 24 :=
  r_iconst F d_N_isAt_24 (by decide) <| (o_N_isAt_25 h0 h1 F hr hlk)
theorem o_N_isAt_20 {X : ra_X} {p : Program} {l : Launch} {e : Env} {s : State} {m : MethodId} {args : Array Value} {below : List Frame} {meth : Method} {c : Code} {Z : ra_R} {c0 c1 : ra_Sp}  (h0 : ra_MOK l X mi_N_isHouse c0) (h1 : ra_MOK l X mi_N_in c1) (F : ra_Fx X p rm_N_isAt s m args c prog_13_method_30_code 3 cn_N) (hr : meth.sig.returnType = (some .boolean)) (hlk : meth.locks = false) : ra_At X p l e rm_N_isAt s m args below meth c 3 (MQ below (ra_Qc X Z) args s 0 0 (ra_A X)) (b_N_isAt_20 c0 c1 Z) 20 :=
  r_iconst F d_N_isAt_20 (by decide) <| r_goto F d_N_isAt_21 (by decide) (o_N_isAt_25 h0 h1 F hr hlk)
theorem o_N_isAt_8 {X : ra_X} {p : Program} {l : Launch} {e : Env} {s : State} {m : MethodId} {args : Array Value} {below : List Frame} {meth : Method} {c : Code} {Z : ra_R} {c0 c1 : ra_Sp}  (h0 : ra_MOK l X mi_N_isHouse c0) (h1 : ra_MOK l X mi_N_in c1) (F : ra_Fx X p rm_N_isAt s m args c prog_13_method_30_code 3 cn_N) (hr : meth.sig.returnType = (some .boolean)) (hlk : meth.locks = false) : ra_At X p l e rm_N_isAt s m args below meth c 3 (MQ below (ra_Qc X Z) args s 0 0 (ra_A X)) (b_N_isAt_8 c0 c1 Z) 8 :=
  r_iload_n F d_N_isAt_8 rfl <| r_iconst F d_N_isAt_9 (by decide) <| r_aload_n F d_N_isAt_10 rfl <| r_getI F cg_N (j := 7) (by decide) rfl fl_N_147 d_N_isAt_11 <| r_callS F h1 (co_N_in (by decide +kernel) (by decide +kernel)) ⟨rfl, by decide +kernel⟩ ml_N_101 st_N_in d_N_isAt_14 <| r_if_eq F d_N_isAt_17 (by decide) (o_N_isAt_24 h0 h1 F hr hlk) (o_N_isAt_20 h0 h1 F hr hlk)
theorem o_N_isAt_0 {X : ra_X} {p : Program} {l : Launch} {e : Env} {s : State} {m : MethodId} {args : Array Value} {below : List Frame} {meth : Method} {c : Code} {Z : ra_R} {c0 c1 : ra_Sp}  (h0 : ra_MOK l X mi_N_isHouse c0) (h1 : ra_MOK l X mi_N_in c1) (F : ra_Fx X p rm_N_isAt s m args c prog_13_method_30_code 3 cn_N) (hr : meth.sig.returnType = (some .boolean)) (hlk : meth.locks = false) : ra_At X p l e rm_N_isAt s m args below meth c 3 (MQ below (ra_Qc X Z) args s 0 0 (ra_A X)) (b_N_isAt_0 c0 c1 Z) 0 :=
  r_aload_n F d_N_isAt_0 rfl <| r_iload_n F d_N_isAt_1 rfl <| r_callV F h0 (co_N_isHouse (by decide +kernel) (by decide +kernel)) ⟨rfl, by decide +kernel⟩ ⟨rfl, by decide⟩ ml_N_140 im_N_isHouse se_N_isHouse d_N_isAt_2 <| r_if_eq F d_N_isAt_5 (by decide) (o_N_isAt_24 h0 h1 F hr hlk) (o_N_isAt_8 h0 h1 F hr hlk)
theorem g_N_isAt {l : Launch} {X : ra_X} {c0 c1 : ra_Sp}  (h0 : ra_MOK l X mi_N_isHouse c0) (h1 : ra_MOK l X mi_N_in c1) (sp : ra_Sp) (ve : ∀ as σ Z, ra_c1 as = true → as.length = 3 → sp as σ Z → b_N_isAt_0 c0 c1 Z (ra_pad 3 as) [] σ) : ra_MOK l X mi_N_isAt sp := by
  refine ra_enter (k := fun Z as σ => b_N_isAt_0 c0 c1 Z) cn_N rfl (by decide +kernel) ⟨by decide +kernel, by decide +kernel⟩ (by decide +kernel) ?_ ve
  intro p e s m args below meth c Z as σ hsp F hr hlk
  exact o_N_isAt_0 h0 h1 F hr hlk

theorem d_N_doesLay_0 : decode prog_13_method_26_code 0 = .ok (.aload_n 0, 1) := by decide +kernel
theorem d_N_doesLay_1 : decode prog_13_method_26_code 1 = .ok (.getfield 43, 3) := by decide +kernel
theorem d_N_doesLay_4 : decode prog_13_method_26_code 4 = .ok (.iload_n 1, 1) := by decide +kernel
theorem d_N_doesLay_5 : decode prog_13_method_26_code 5 = .ok (.iaload, 1) := by decide +kernel
theorem d_N_doesLay_6 : decode prog_13_method_26_code 6 = .ok (.aload_n 0, 1) := by decide +kernel
theorem d_N_doesLay_7 : decode prog_13_method_26_code 7 = .ok (.getfield 31, 3) := by decide +kernel
theorem d_N_doesLay_10 : decode prog_13_method_26_code 10 = .ok (.iconst 0, 1) := by decide +kernel
theorem d_N_doesLay_11 : decode prog_13_method_26_code 11 = .ok (.iaload, 1) := by decide +kernel
theorem d_N_doesLay_12 : decode prog_13_method_26_code 12 = .ok (.if_icmp .lt 14, 3) := by decide +kernel
theorem d_N_doesLay_15 : decode prog_13_method_26_code 15 = .ok (.aload_n 0, 1) := by decide +kernel
theorem d_N_doesLay_16 : decode prog_13_method_26_code 16 = .ok (.getfield 40, 3) := by decide +kernel
theorem d_N_doesLay_19 : decode prog_13_method_26_code 19 = .ok (.iload_n 2, 1) := by decide +kernel
theorem d_N_doesLay_20 : decode prog_13_method_26_code 20 = .ok (.iaload, 1) := by decide +kernel
theorem d_N_doesLay_21 : decode prog_13_method_26_code 21 = .ok (.bipush 8, 2) := by decide +kernel
theorem d_N_doesLay_23 : decode prog_13_method_26_code 23 = .ok (.if_icmp .le 5, 3) := by decide +kernel
theorem d_N_doesLay_26 : decode prog_13_method_26_code 26 = .ok (.iconst 0, 1) := by decide +kernel
theorem d_N_doesLay_27 : decode prog_13_method_26_code 27 = .ok (.ireturn, 1) := by decide +kernel
theorem d_N_doesLay_28 : decode prog_13_method_26_code 28 = .ok (.aload_n 0, 1) := by decide +kernel
theorem d_N_doesLay_29 : decode prog_13_method_26_code 29 = .ok (.getfield 37, 3) := by decide +kernel
theorem d_N_doesLay_32 : decode prog_13_method_26_code 32 = .ok (.iload_n 1, 1) := by decide +kernel
theorem d_N_doesLay_33 : decode prog_13_method_26_code 33 = .ok (.iaload, 1) := by decide +kernel
theorem d_N_doesLay_34 : decode prog_13_method_26_code 34 = .ok (.ifCond .ne 18, 3) := by decide +kernel
theorem d_N_doesLay_37 : decode prog_13_method_26_code 37 = .ok (.aload_n 0, 1) := by decide +kernel
theorem d_N_doesLay_38 : decode prog_13_method_26_code 38 = .ok (.getfield 52, 3) := by decide +kernel
theorem d_N_doesLay_41 : decode prog_13_method_26_code 41 = .ok (.iload_n 2, 1) := by decide +kernel
theorem d_N_doesLay_42 : decode prog_13_method_26_code 42 = .ok (.iaload, 1) := by decide +kernel
theorem d_N_doesLay_43 : decode prog_13_method_26_code 43 = .ok (.ifCond .le 7, 3) := by decide +kernel
theorem d_N_doesLay_46 : decode prog_13_method_26_code 46 = .ok (.iconst 1, 1) := by decide +kernel
theorem d_N_doesLay_47 : decode prog_13_method_26_code 47 = .ok (.goto 4, 3) := by decide +kernel
theorem d_N_doesLay_50 : decode prog_13_method_26_code 50 = .ok (.iconst 0, 1) := by decide +kernel
theorem d_N_doesLay_51 : decode prog_13_method_26_code 51 = .ok (.ireturn, 1) := by decide +kernel
theorem d_N_doesLay_52 : decode prog_13_method_26_code 52 = .ok (.aload_n 0, 1) := by decide +kernel
theorem d_N_doesLay_53 : decode prog_13_method_26_code 53 = .ok (.getfield 37, 3) := by decide +kernel
theorem d_N_doesLay_56 : decode prog_13_method_26_code 56 = .ok (.iload_n 1, 1) := by decide +kernel
theorem d_N_doesLay_57 : decode prog_13_method_26_code 57 = .ok (.iaload, 1) := by decide +kernel
theorem d_N_doesLay_58 : decode prog_13_method_26_code 58 = .ok (.iconst 1, 1) := by decide +kernel
theorem d_N_doesLay_59 : decode prog_13_method_26_code 59 = .ok (.if_icmp .ne 37, 3) := by decide +kernel
theorem d_N_doesLay_62 : decode prog_13_method_26_code 62 = .ok (.aload_n 0, 1) := by decide +kernel
theorem d_N_doesLay_63 : decode prog_13_method_26_code 63 = .ok (.getfield 52, 3) := by decide +kernel
theorem d_N_doesLay_66 : decode prog_13_method_26_code 66 = .ok (.iload_n 2, 1) := by decide +kernel
theorem d_N_doesLay_67 : decode prog_13_method_26_code 67 = .ok (.iaload, 1) := by decide +kernel
theorem d_N_doesLay_68 : decode prog_13_method_26_code 68 = .ok (.ifCond .le 26, 3) := by decide +kernel
theorem d_N_doesLay_71 : decode prog_13_method_26_code 71 = .ok (.aload_n 0, 1) := by decide +kernel
theorem d_N_doesLay_72 : decode prog_13_method_26_code 72 = .ok (.getfield 52, 3) := by decide +kernel
theorem d_N_doesLay_75 : decode prog_13_method_26_code 75 = .ok (.iload_n 1, 1) := by decide +kernel
theorem d_N_doesLay_76 : decode prog_13_method_26_code 76 = .ok (.iaload, 1) := by decide +kernel
theorem d_N_doesLay_77 : decode prog_13_method_26_code 77 = .ok (.ifCond .eq 13, 3) := by decide +kernel
theorem d_N_doesLay_80 : decode prog_13_method_26_code 80 = .ok (.aload_n 0, 1) := by decide +kernel
theorem d_N_doesLay_81 : decode prog_13_method_26_code 81 = .ok (.getfield 55, 3) := by decide +kernel
theorem d_N_doesLay_84 : decode prog_13_method_26_code 84 = .ok (.iload_n 1, 1) := by decide +kernel
theorem d_N_doesLay_85 : decode prog_13_method_26_code 85 = .ok (.iaload, 1) := by decide +kernel
theorem d_N_doesLay_86 : decode prog_13_method_26_code 86 = .ok (.iconst 1, 1) := by decide +kernel
theorem d_N_doesLay_87 : decode prog_13_method_26_code 87 = .ok (.if_icmp .ne 7, 3) := by decide +kernel
theorem d_N_doesLay_90 : decode prog_13_method_26_code 90 = .ok (.iconst 1, 1) := by decide +kernel
theorem d_N_doesLay_91 : decode prog_13_method_26_code 91 = .ok (.goto 4, 3) := by decide +kernel
theorem d_N_doesLay_94 : decode prog_13_method_26_code 94 = .ok (.iconst 0, 1) := by decide +kernel
theorem d_N_doesLay_95 : decode prog_13_method_26_code 95 = .ok (.ireturn, 1) := by decide +kernel
theorem d_N_doesLay_96 : decode prog_13_method_26_code 96 = .ok (.aload_n 0, 1) := by decide +kernel
theorem d_N_doesLay_97 : decode prog_13_method_26_code 97 = .ok (.getfield 37, 3) := by decide +kernel
theorem d_N_doesLay_100 : decode prog_13_method_26_code 100 = .ok (.iload_n 1, 1) := by decide +kernel
theorem d_N_doesLay_101 : decode prog_13_method_26_code 101 = .ok (.iaload, 1) := by decide +kernel
theorem d_N_doesLay_102 : decode prog_13_method_26_code 102 = .ok (.iconst 2, 1) := by decide +kernel
theorem d_N_doesLay_103 : decode prog_13_method_26_code 103 = .ok (.if_icmp .ne 17, 3) := by decide +kernel
theorem d_N_doesLay_106 : decode prog_13_method_26_code 106 = .ok (.aload_n 0, 1) := by decide +kernel
theorem d_N_doesLay_107 : decode prog_13_method_26_code 107 = .ok (.getfield 52, 3) := by decide +kernel
theorem d_N_doesLay_110 : decode prog_13_method_26_code 110 = .ok (.iload_n 2, 1) := by decide +kernel
theorem d_N_doesLay_111 : decode prog_13_method_26_code 111 = .ok (.iaload, 1) := by decide +kernel
theorem d_N_doesLay_112 : decode prog_13_method_26_code 112 = .ok (.iconst 2, 1) := by decide +kernel
theorem d_N_doesLay_113 : decode prog_13_method_26_code 113 = .ok (.if_icmp .le 7, 3) := by decide +kernel
theorem d_N_doesLay_116 : decode prog_13_method_26_code 116 = .ok (.iconst 1, 1) := by decide +kernel
theorem d_N_doesLay_117 : decode prog_13_method_26_code 117 = .ok (.goto 4, 3) := by decide +kernel
theorem d_N_doesLay_120 : decode prog_13_method_26_code 120 = .ok (.iconst 0, 1) := by decide +kernel
theorem d_N_doesLay_121 : decode prog_13_method_26_code 121 = .ok (.ireturn, 1) := by decide +kernel
def b_N_doesLay_121 (Z : ra_R) : ra_K := w_zr Z
def b_N_doesLay_120 (Z : ra_R) : ra_K := w_c 0 <| (b_N_doesLay_121 Z)
def b_N_doesLay_116 (Z : ra_R) : ra_K := w_c 1 <| (b_N_doesLay_121 Z)
def b_N_doesLay_106 (Z : ra_R) : ra_K := w_al 0 <| w_gr 11 16 <| w_il 2 <| w_ald <| w_c 2 <| w_b2 (fun x y => x ≤ y) (b_N_doesLay_120 Z) (b_N_doesLay_116 Z)
def b_N_doesLay_96 (Z : ra_R) : ra_K := w_al 0 <| w_gr 11 11 <| w_il 1 <| w_ald <| w_c 2 <| w_b2 (fun x y => x = y) (b_N_doesLay_106 Z) (b_N_doesLay_120 Z)
def b_N_doesLay_95 (Z : ra_R) : ra_K := w_zr Z
def b_N_doesLay_94 (Z : ra_R) : ra_K := w_c 0 <| (b_N_doesLay_95 Z)
def b_N_doesLay_90 (Z : ra_R) : ra_K := w_c 1 <| (b_N_doesLay_95 Z)
def b_N_doesLay_80 (Z : ra_R) : ra_K := w_al 0 <| w_gr 11 17 <| w_il 1 <| w_ald <| w_c 1 <| w_b2 (fun x y => x = y) (b_N_doesLay_90 Z) (b_N_doesLay_94 Z)
def b_N_doesLay_71 (Z : ra_R) : ra_K := w_al 0 <| w_gr 11 16 <| w_il 1 <| w_ald <| w_b1 (fun x => x = 0) (b_N_doesLay_90 Z) (b_N_doesLay_80 Z)
def b_N_doesLay_62 (Z : ra_R) : ra_K := w_al 0 <| w_gr 11 16 <| w_il 2 <| w_ald <| w_b1 (fun x => x ≤ 0) (b_N_doesLay_94 Z) (b_N_doesLay_71 Z)
def b_N_doesLay_52 (Z : ra_R) : ra_K := w_al 0 <| w_gr 11 11 <| w_il 1 <| w_ald <| w_c 1 <| w_b2 (fun x y => x = y) (b_N_doesLay_62 Z) (b_N_doesLay_96 Z)
def b_N_doesLay_51 (Z : ra_R) : ra_K := w_zr Z
def b_N_doesLay_50 (Z : ra_R) : ra_K := w_c 0 <| (b_N_doesLay_51 Z)
def b_N_doesLay_46 (Z : ra_R) : ra_K := w_c 1 <| (b_N_doesLay_51 Z)
def b_N_doesLay_37 (Z : ra_R) : ra_K := w_al 0 <| w_gr 11 16 <| w_il 2 <| w_ald <| w_b1 (fun x => x ≤ 0) (b_N_doesLay_50 Z) (b_N_doesLay_46 Z)
def b_N_doesLay_28 (Z : ra_R) : ra_K := w_al 0 <| w_gr 11 11 <| w_il 1 <| w_ald <| w_b1 (fun x => x = 0) (b_N_doesLay_37 Z) (b_N_doesLay_52 Z)
def b_N_doesLay_26 (Z : ra_R) : ra_K := w_c 0 <| w_zr Z
def b_N_doesLay_15 (Z : ra_R) : ra_K := w_al 0 <| w_gr 11 12 <| w_il 2 <| w_ald <| w_c 8 <| w_b2 (fun x y => x ≤ y) (b_N_doesLay_28 Z) (b_N_doesLay_26 Z)
def b_N_doesLay_0 (Z : ra_R) : ra_K := w_al 0 <| w_gr 11 13 <| w_il 1 <| w_ald <| w_al 0 <| w_gr 11 9 <| w_c 0 <| w_ald <| w_b2 (fun x y => x < y) (b_N_doesLay_26 Z) (b_N_doesLay_15 Z)
theorem o_N_doesLay_121 {X : ra_X} {p : Program} {l : Launch} {e : Env} {s : State} {m : MethodId} {args : Array Value} {below : List Frame} {meth : Method} {c : Code} {Z : ra_R}  (F : ra_Fx X p rm_N_doesLay s m args c prog_13_method_26_code 3 cn_N) (hr : meth.sig.returnType = (some .boolean)) (hlk : meth.locks = false) : ra_At X p l e rm_N_doesLay s m args below meth c 3 (MQ below (ra_Qc X Z) args s 0 0 (ra_A X)) (b_N_doesLay_121 Z) 121 :=
  r_zreturn F hr hlk d_N_doesLay_121
theorem o_N_doesLay_120 {X : ra_X} {p : Program} {l : Launch} {e : Env} {s : State} {m : MethodId} {args : Array Value} {below : List Frame} {meth : Method} {c : Code} {Z : ra_R}  (F : ra_Fx X p rm_N_doesLay s m args c prog_13_method_26_code 3 cn_N) (hr : meth.sig.returnType = (some .boolean)) (hlk : meth.locks = false) : ra_At X p l e rm_N_doesLay s m args below meth c 3 (MQ below (ra_Qc X Z) args s 0 0 (ra_A X)) (b_N_doesLay_120 Z) 120 :=
  r_iconst F d_N_doesLay_120 (by decide) <| (o_N_doesLay_121 F hr hlk)
theorem o_N_doesLay_116 {X : ra_X} {p : Program} {l : Launch} {e : Env} {s : State} {m : MethodId} {args : Array Value} {below : List Frame} {meth : Method} {c : Code} {Z : ra_R}  (F : ra_Fx X p rm_N_doesLay s m args c prog_13_method_26_code 3 cn_N) (hr : meth.sig.returnType = (some .boolean)) (hlk : meth.locks = false) : ra_At X p l e rm_N_doesLay s m args below meth c 3 (MQ below (ra_Qc X Z) args s 0 0 (ra_A X)) (b_N_doesLay_116 Z) 116 :=
  r_iconst F d_N_doesLay_116 (by decide) <| r_goto F d_N_doesLay_117 (by decide) (o_N_doesLay_121 F hr hlk)
theorem o_N_doesLay_106 {X : ra_X} {p : Program} {l : Launch} {e : Env} {s : State} {m : MethodId} {args : Array Value} {below : List Frame} {meth : Method} {c : Code} {Z : ra_R}  (F : ra_Fx X p rm_N_doesLay s m args c prog_13_method_26_code 3 cn_N) (hr : meth.sig.returnType = (some .boolean)) (hlk : meth.locks = false) : ra_At X p l e rm_N_doesLay s m args below meth c 3 (MQ below (ra_Qc X Z) args s 0 0 (ra_A X)) (b_N_doesLay_106 Z) 106 :=
  r_aload_n F d_N_doesLay_106 rfl <| r_getR F cg_N (j := 16) (by decide) rfl fl_N_52 d_N_doesLay_107 <| r_iload_n F d_N_doesLay_110 rfl <| r_iaload F d_N_doesLay_111 <| r_iconst F d_N_doesLay_112 (by decide) <| r_icmp_le F d_N_doesLay_113 (by decide) (o_N_doesLay_120 F hr hlk) (o_N_doesLay_116 F hr hlk)
theorem o_N_doesLay_96 {X : ra_X} {p : Program} {l : Launch} {e : Env} {s : State} {m : MethodId} {args : Array Value} {below : List Frame} {meth : Method} {c : Code} {Z : ra_R}  (F : ra_Fx X p rm_N_doesLay s m args c prog_13_method_26_code 3 cn_N) (hr : meth.sig.returnType = (some .boolean)) (hlk : meth.locks = false) : ra_At X p l e rm_N_doesLay s m args below meth c 3 (MQ below (ra_Qc X Z) args s 0 0 (ra_A X)) (b_N_doesLay_96 Z) 96 :=
  r_aload_n F d_N_doesLay_96 rfl <| r_getR F cg_N (j := 11) (by decide) rfl fl_N_37 d_N_doesLay_97 <| r_iload_n F d_N_doesLay_100 rfl <| r_iaload F d_N_doesLay_101 <| r_iconst F d_N_doesLay_102 (by decide) <| r_icmp_ne F d_N_doesLay_103 (by decide) (o_N_doesLay_120 F hr hlk) (o_N_doesLay_106 F hr hlk)
theorem o_N_doesLay_95 {X : ra_X} {p : Program} {l : Launch} {e : Env} {s : State} {m : MethodId} {args : Array Value} {below : List Frame} {meth : Method} {c : Code} {Z : ra_R}  (F : ra_Fx X p rm_N_doesLay s m args c prog_13_method_26_code 3 cn_N) (hr : meth.sig.returnType = (some .boolean)) (hlk : meth.locks = false) : ra_At X p l e rm_N_doesLay s m args below meth c 3 (MQ below (ra_Qc X Z) args s 0 0 (ra_A X)) (b_N_doesLay_95 Z) 95 :=
  r_zreturn F hr hlk d_N_doesLay_95
theorem o_N_doesLay_94 {X : ra_X} {p : Program} {l : Launch} {e : Env} {s : State} {m : MethodId} {args : Array Value} {below : List Frame} {meth : Method} {c : Code} {Z : ra_R}  (F : ra_Fx X p rm_N_doesLay s m args c prog_13_method_26_code 3 cn_N) (hr : meth.sig.returnType = (some .boolean)) (hlk : meth.locks = false) : ra_At X p l e rm_N_doesLay s m args below meth c 3 (MQ below (ra_Qc X Z) args s 0 0 (ra_A X)) (b_N_doesLay_94 Z) 94 :=
  r_iconst F d_N_doesLay_94 (by decide) <| (o_N_doesLay_95 F hr hlk)
theorem o_N_doesLay_90 {X : ra_X} {p : Program} {l : Launch} {e : Env} {s : State} {m : MethodId} {args : Array Value} {below : List Frame} {meth : Method} {c : Code} {Z : ra_R}  (F : ra_Fx X p rm_N_doesLay s m args c prog_13_method_26_code 3 cn_N) (hr : meth.sig.returnType = (some .boolean)) (hlk : meth.locks = false) : ra_At X p l e rm_N_doesLay s m args below meth c 3 (MQ below (ra_Qc X Z) args s 0 0 (ra_A X)) (b_N_doesLay_90 Z) 90 :=
  r_iconst F d_N_doesLay_90 (by decide) <| r_goto F d_N_doesLay_91 (by decide) (o_N_doesLay_95 F hr hlk)
theorem o_N_doesLay_80 {X : ra_X} {p : Program} {l : Launch} {e : Env} {s : State} {m : MethodId} {args : Array Value} {below : List Frame} {meth : Method} {c : Code} {Z : ra_R}  (F : ra_Fx X p rm_N_doesLay s m args c prog_13_method_26_code 3 cn_N) (hr : meth.sig.returnType = (some .boolean)) (hlk : meth.locks = false) : ra_At X p l e rm_N_doesLay s m args below meth c 3 (MQ below (ra_Qc X Z) args s 0 0 (ra_A X)) (b_N_doesLay_80 Z) 80 :=
  r_aload_n F d_N_doesLay_80 rfl <| r_getR F cg_N (j := 17) (by decide) rfl fl_N_55 d_N_doesLay_81 <| r_iload_n F d_N_doesLay_84 rfl <| r_iaload F d_N_doesLay_85 <| r_iconst F d_N_doesLay_86 (by decide) <| r_icmp_ne F d_N_doesLay_87 (by decide) (o_N_doesLay_94 F hr hlk) (o_N_doesLay_90 F hr hlk)
theorem o_N_doesLay_71 {X : ra_X} {p : Program} {l : Launch} {e : Env} {s : State} {m : MethodId} {args : Array Value} {below : List Frame} {meth : Method} {c : Code} {Z : ra_R}  (F : ra_Fx X p rm_N_doesLay s m args c prog_13_method_26_code 3 cn_N) (hr : meth.sig.returnType = (some .boolean)) (hlk : meth.locks = false) : ra_At X p l e rm_N_doesLay s m args below meth c 3 (MQ below (ra_Qc X Z) args s 0 0 (ra_A X)) (b_N_doesLay_71 Z) 71 :=
  r_aload_n F d_N_doesLay_71 rfl <| r_getR F cg_N (j := 16) (by decide) rfl fl_N_52 d_N_doesLay_72 <| r_iload_n F d_N_doesLay_75 rfl <| r_iaload F d_N_doesLay_76 <| r_if_eq F d_N_doesLay_77 (by decide) (o_N_doesLay_90 F hr hlk) (o_N_doesLay_80 F hr hlk)
theorem o_N_doesLay_62 {X : ra_X} {p : Program} {l : Launch} {e : Env} {s : State} {m : MethodId} {args : Array Value} {below : List Frame} {meth : Method} {c : Code} {Z : ra_R}  (F : ra_Fx X p rm_N_doesLay s m args c prog_13_method_26_code 3 cn_N) (hr : meth.sig.returnType = (some .boolean)) (hlk : meth.locks = false) : ra_At X p l e rm_N_doesLay s m args below meth c 3 (MQ below (ra_Qc X Z) args s 0 0 (ra_A X)) (b_N_doesLay_62 Z) 62 :=
  r_aload_n F d_N_doesLay_62 rfl <| r_getR F cg_N (j := 16) (by decide) rfl fl_N_52 d_N_doesLay_63 <| r_iload_n F d_N_doesLay_66 rfl <| r_iaload F d_N_doesLay_67 <| r_if_le F d_N_doesLay_68 (by decide) (o_N_doesLay_94 F hr hlk) (o_N_doesLay_71 F hr hlk)
theorem o_N_doesLay_52 {X : ra_X} {p : Program} {l : Launch} {e : Env} {s : State} {m : MethodId} {args : Array Value} {below : List Frame} {meth : Method} {c : Code} {Z : ra_R}  (F : ra_Fx X p rm_N_doesLay s m args c prog_13_method_26_code 3 cn_N) (hr : meth.sig.returnType = (some .boolean)) (hlk : meth.locks = false) : ra_At X p l e rm_N_doesLay s m args below meth c 3 (MQ below (ra_Qc X Z) args s 0 0 (ra_A X)) (b_N_doesLay_52 Z) 52 :=
  r_aload_n F d_N_doesLay_52 rfl <| r_getR F cg_N (j := 11) (by decide) rfl fl_N_37 d_N_doesLay_53 <| r_iload_n F d_N_doesLay_56 rfl <| r_iaload F d_N_doesLay_57 <| r_iconst F d_N_doesLay_58 (by decide) <| r_icmp_ne F d_N_doesLay_59 (by decide) (o_N_doesLay_96 F hr hlk) (o_N_doesLay_62 F hr hlk)
theorem o_N_doesLay_51 {X : ra_X} {p : Program} {l : Launch} {e : Env} {s : State} {m : MethodId} {args : Array Value} {below : List Frame} {meth : Method} {c : Code} {Z : ra_R}  (F : ra_Fx X p rm_N_doesLay s m args c prog_13_method_26_code 3 cn_N) (hr : meth.sig.returnType = (some .boolean)) (hlk : meth.locks = false) : ra_At X p l e rm_N_doesLay s m args below meth c 3 (MQ below (ra_Qc X Z) args s 0 0 (ra_A X)) (b_N_doesLay_51 Z) 51 :=
  r_zreturn F hr hlk d_N_doesLay_51
theorem o_N_doesLay_50 {X : ra_X} {p : Program} {l : Launch} {e : Env} {s : State} {m : MethodId} {args : Array Value} {below : List Frame} {meth : Method} {c : Code} {Z : ra_R}  (F : ra_Fx X p rm_N_doesLay s m args c prog_13_method_26_code 3 cn_N) (hr : meth.sig.returnType = (some .boolean)) (hlk : meth.locks = false) : ra_At X p l e rm_N_doesLay s m args below meth c 3 (MQ below (ra_Qc X Z) args s 0 0 (ra_A X)) (b_N_doesLay_50 Z) 50 :=
  r_iconst F d_N_doesLay_50 (by decide) <| (o_N_doesLay_51 F hr hlk)
theorem o_N_doesLay_46 {X : ra_X} {p : Program} {l : Launch} {e : Env} {s : State} {m : MethodId} {args : Array Value} {below : List Frame} {meth : Method} {c : Code} {Z : ra_R}  (F : ra_Fx X p rm_N_doesLay s m args c prog_13_method_26_code 3 cn_N) (hr : meth.sig.returnType = (some .boolean)) (hlk : meth.locks = false) : ra_At X p l e rm_N_doesLay s m args below meth c 3 (MQ below (ra_Qc X Z) args s 0 0 (ra_A X)) (b_N_doesLay_46 Z) 46 :=
  r_iconst F d_N_doesLay_46 (by decide) <| r_goto F d_N_doesLay_47 (by decide) (o_N_doesLay_51 F hr hlk)
theorem o_N_doesLay_37 {X : ra_X} {p : Program} {l : Launch} {e : Env} {s : State} {m : MethodId} {args : Array Value} {below : List Frame} {meth : Method} {c : Code} {Z : ra_R}  (F : ra_Fx X p rm_N_doesLay s m args c prog_13_method_26_code 3 cn_N) (hr : meth.sig.returnType = (some .boolean)) (hlk : meth.locks = false) : ra_At X p l e rm_N_doesLay s m args below meth c 3 (MQ below (ra_Qc X Z) args s 0 0 (ra_A X)) (b_N_doesLay_37 Z) 37 :=
  r_aload_n F d_N_doesLay_37 rfl <| r_getR F cg_N (j := 16) (by decide) rfl fl_N_52 d_N_doesLay_38 <| r_iload_n F d_N_doesLay_41 rfl <| r_iaload F d_N_doesLay_42 <| r_if_le F d_N_doesLay_43 (by decide) (o_N_doesLay_50 F hr hlk) (o_N_doesLay_46 F hr hlk)
theorem o_N_doesLay_28 {X : ra_X} {p : Program} {l : Launch} {e : Env} {s : State} {m : MethodId} {args : Array Value} {below : List Frame} {meth : Method} {c : Code} {Z : ra_R}  (F : ra_Fx X p rm_N_doesLay s m args c prog_13_method_26_code 3 cn_N) (hr : meth.sig.returnType = (some .boolean)) (hlk : meth.locks = false) : ra_At X p l e rm_N_doesLay s m args below meth c 3 (MQ below (ra_Qc X Z) args s 0 0 (ra_A X)) (b_N_doesLay_28 Z) 28 :=
  r_aload_n F d_N_doesLay_28 rfl <| r_getR F cg_N (j := 11) (by decide) rfl fl_N_37 d_N_doesLay_29 <| r_iload_n F d_N_doesLay_32 rfl <| r_iaload F d_N_doesLay_33 <| r_if_ne F d_N_doesLay_34 (by decide) (o_N_doesLay_52 F hr hlk) (o_N_doesLay_37 F hr hlk)
theorem o_N_doesLay_26 {X : ra_X} {p : Program} {l : Launch} {e : Env} {s : State} {m : MethodId} {args : Array Value} {below : List Frame} {meth : Method} {c : Code} {Z : ra_R}  (F : ra_Fx X p rm_N_doesLay s m args c prog_13_method_26_code 3 cn_N) (hr : meth.sig.returnType = (some .boolean)) (hlk : meth.locks = false) : ra_At X p l e rm_N_doesLay s m args below meth c 3 (MQ below (ra_Qc X Z) args s 0 0 (ra_A X)) (b_N_doesLay_26 Z) 26 :=
  r_iconst F d_N_doesLay_26 (by decide) <| r_zreturn F hr hlk d_N_doesLay_27
theorem o_N_doesLay_15 {X : ra_X} {p : Program} {l : Launch} {e : Env} {s : State} {m : MethodId} {args : Array Value} {below : List Frame} {meth : Method} {c : Code} {Z : ra_R}  (F : ra_Fx X p rm_N_doesLay s m args c prog_13_method_26_code 3 cn_N) (hr : meth.sig.returnType = (some .boolean)) (hlk : meth.locks = false) : ra_At X p l e rm_N_doesLay s m args below meth c 3 (MQ below (ra_Qc X Z) args s 0 0 (ra_A X)) (b_N_doesLay_15 Z) 15 :=
  r_aload_n F d_N_doesLay_15 rfl <| r_getR F cg_N (j := 12) (by decide) rfl fl_N_40 d_N_doesLay_16 <| r_iload_n F d_N_doesLay_19 rfl <| r_iaload F d_N_doesLay_20 <| r_bipush F d_N_doesLay_21 (by decide) <| r_icmp_le F d_N_doesLay_23 (by decide) (o_N_doesLay_28 F hr hlk) (o_N_doesLay_26 F hr hlk)
theorem o_N_doesLay_0 {X : ra_X} {p : Program} {l : Launch} {e : Env} {s : State} {m : MethodId} {args : Array Value} {below : List Frame} {meth : Method} {c : Code} {Z : ra_R}  (F : ra_Fx X p rm_N_doesLay s m args c prog_13_method_26_code 3 cn_N) (hr : meth.sig.returnType = (some .boolean)) (hlk : meth.locks = false) : ra_At X p l e rm_N_doesLay s m args below meth c 3 (MQ below (ra_Qc X Z) args s 0 0 (ra_A X)) (b_N_doesLay_0 Z) 0 :=
  r_aload_n F d_N_doesLay_0 rfl <| r_getR F cg_N (j := 13) (by decide) rfl fl_N_43 d_N_doesLay_1 <| r_iload_n F d_N_doesLay_4 rfl <| r_iaload F d_N_doesLay_5 <| r_aload_n F d_N_doesLay_6 rfl <| r_getR F cg_N (j := 9) (by decide) rfl fl_N_31 d_N_doesLay_7 <| r_iconst F d_N_doesLay_10 (by decide) <| r_iaload F d_N_doesLay_11 <| r_icmp_lt F d_N_doesLay_12 (by decide) (o_N_doesLay_26 F hr hlk) (o_N_doesLay_15 F hr hlk)
theorem g_N_doesLay {l : Launch} {X : ra_X}  (sp : ra_Sp) (ve : ∀ as σ Z, ra_c1 as = true → as.length = 3 → sp as σ Z → b_N_doesLay_0 Z (ra_pad 3 as) [] σ) : ra_MOK l X mi_N_doesLay sp := by
  refine ra_enter (k := fun Z as σ => b_N_doesLay_0 Z) cn_N rfl (by decide +kernel) ⟨by decide +kernel, by decide +kernel⟩ (by decide +kernel) ?_ ve
  intro p e s m args below meth c Z as σ hsp F hr hlk
  exact o_N_doesLay_0 F hr hlk

theorem d_N_runs_0 : decode prog_13_method_27_code 0 = .ok (.iconst 0, 1) := by decide +kernel
theorem d_N_runs_1 : decode prog_13_method_27_code 1 = .ok (.istore_n 2, 1) := by decide +kernel
theorem d_N_runs_2 : decode prog_13_method_27_code 2 = .ok (.iload_n 2, 1) := by decide +kernel
theorem d_N_runs_3 : decode prog_13_method_27_code 3 = .ok (.aload_n 0, 1) := by decide +kernel
theorem d_N_runs_4 : decode prog_13_method_27_code 4 = .ok (.getfield 109, 3) := by decide +kernel
theorem d_N_runs_7 : decode prog_13_method_27_code 7 = .ok (.if_icmp .ge 54, 3) := by decide +kernel
theorem d_N_runs_10 : decode prog_13_method_27_code 10 = .ok (.aload_n 0, 1) := by decide +kernel
theorem d_N_runs_11 : decode prog_13_method_27_code 11 = .ok (.getfield 40, 3) := by decide +kernel
theorem d_N_runs_14 : decode prog_13_method_27_code 14 = .ok (.iload_n 2, 1) := by decide +kernel
theorem d_N_runs_15 : decode prog_13_method_27_code 15 = .ok (.aload_n 0, 1) := by decide +kernel
theorem d_N_runs_16 : decode prog_13_method_27_code 16 = .ok (.getfield 16, 3) := by decide +kernel
theorem d_N_runs_19 : decode prog_13_method_27_code 19 = .ok (.iload_n 2, 1) := by decide +kernel
theorem d_N_runs_20 : decode prog_13_method_27_code 20 = .ok (.iaload, 1) := by decide +kernel
theorem d_N_runs_21 : decode prog_13_method_27_code 21 = .ok (.iastore, 1) := by decide +kernel
theorem d_N_runs_22 : decode prog_13_method_27_code 22 = .ok (.aload_n 0, 1) := by decide +kernel
theorem d_N_runs_23 : decode prog_13_method_27_code 23 = .ok (.getfield 43, 3) := by decide +kernel
theorem d_N_runs_26 : decode prog_13_method_27_code 26 = .ok (.iload_n 2, 1) := by decide +kernel
theorem d_N_runs_27 : decode prog_13_method_27_code 27 = .ok (.aload_n 0, 1) := by decide +kernel
theorem d_N_runs_28 : decode prog_13_method_27_code 28 = .ok (.getfield 19, 3) := by decide +kernel
theorem d_N_runs_31 : decode prog_13_method_27_code 31 = .ok (.iload_n 2, 1) := by decide +kernel
theorem d_N_runs_32 : decode prog_13_method_27_code 32 = .ok (.iaload, 1) := by decide +kernel
theorem d_N_runs_33 : decode prog_13_method_27_code 33 = .ok (.iastore, 1) := by decide +kernel
theorem d_N_runs_34 : decode prog_13_method_27_code 34 = .ok (.aload_n 0, 1) := by decide +kernel
theorem d_N_runs_35 : decode prog_13_method_27_code 35 = .ok (.getfield 46, 3) := by decide +kernel
theorem d_N_runs_38 : decode prog_13_method_27_code 38 = .ok (.iload_n 2, 1) := by decide +kernel
theorem d_N_runs_39 : decode prog_13_method_27_code 39 = .ok (.iconst 0, 1) := by decide +kernel
theorem d_N_runs_40 : decode prog_13_method_27_code 40 = .ok (.iastore, 1) := by decide +kernel
theorem d_N_runs_41 : decode prog_13_method_27_code 41 = .ok (.aload_n 0, 1) := by decide +kernel
theorem d_N_runs_42 : decode prog_13_method_27_code 42 = .ok (.getfield 49, 3) := by decide +kernel
theorem d_N_runs_45 : decode prog_13_method_27_code 45 = .ok (.iload_n 2, 1) := by decide +kernel
theorem d_N_runs_46 : decode prog_13_method_27_code 46 = .ok (.iconst 0, 1) := by decide +kernel
theorem d_N_runs_47 : decode prog_13_method_27_code 47 = .ok (.iastore, 1) := by decide +kernel
theorem d_N_runs_48 : decode prog_13_method_27_code 48 = .ok (.aload_n 0, 1) := by decide +kernel
theorem d_N_runs_49 : decode prog_13_method_27_code 49 = .ok (.getfield 55, 3) := by decide +kernel
theorem d_N_runs_52 : decode prog_13_method_27_code 52 = .ok (.iload_n 2, 1) := by decide +kernel
theorem d_N_runs_53 : decode prog_13_method_27_code 53 = .ok (.iconst 0, 1) := by decide +kernel
theorem d_N_runs_54 : decode prog_13_method_27_code 54 = .ok (.iastore, 1) := by decide +kernel
theorem d_N_runs_55 : decode prog_13_method_27_code 55 = .ok (.iinc 2 1, 3) := by decide +kernel
theorem d_N_runs_58 : decode prog_13_method_27_code 58 = .ok (.goto (-56), 3) := by decide +kernel
theorem d_N_runs_61 : decode prog_13_method_27_code 61 = .ok (.iconst 0, 1) := by decide +kernel
theorem d_N_runs_62 : decode prog_13_method_27_code 62 = .ok (.istore_n 2, 1) := by decide +kernel
theorem d_N_runs_63 : decode prog_13_method_27_code 63 = .ok (.iload_n 2, 1) := by decide +kernel
theorem d_N_runs_64 : decode prog_13_method_27_code 64 = .ok (.iload_n 1, 1) := by decide +kernel
theorem d_N_runs_65 : decode prog_13_method_27_code 65 = .ok (.if_icmp .ge 291, 3) := by decide +kernel
theorem d_N_runs_68 : decode prog_13_method_27_code 68 = .ok (.iconst 0, 1) := by decide +kernel
theorem d_N_runs_69 : decode prog_13_method_27_code 69 = .ok (.istore_n 3, 1) := by decide +kernel
theorem d_N_runs_70 : decode prog_13_method_27_code 70 = .ok (.iload_n 3, 1) := by decide +kernel
theorem d_N_runs_71 : decode prog_13_method_27_code 71 = .ok (.aload_n 0, 1) := by decide +kernel
theorem d_N_runs_72 : decode prog_13_method_27_code 72 = .ok (.getfield 109, 3) := by decide +kernel
theorem d_N_runs_75 : decode prog_13_method_27_code 75 = .ok (.if_icmp .ge 62, 3) := by decide +kernel
theorem d_N_runs_78 : decode prog_13_method_27_code 78 = .ok (.aload_n 0, 1) := by decide +kernel
theorem d_N_runs_79 : decode prog_13_method_27_code 79 = .ok (.getfield 52, 3) := by decide +kernel
theorem d_N_runs_82 : decode prog_13_method_27_code 82 = .ok (.iload_n 3, 1) := by decide +kernel
theorem d_N_runs_83 : decode prog_13_method_27_code 83 = .ok (.aload_n 0, 1) := by decide +kernel
theorem d_N_runs_84 : decode prog_13_method_27_code 84 = .ok (.getfield 28, 3) := by decide +kernel
theorem d_N_runs_87 : decode prog_13_method_27_code 87 = .ok (.iload_n 2, 1) := by decide +kernel
theorem d_N_runs_88 : decode prog_13_method_27_code 88 = .ok (.iaload, 1) := by decide +kernel
theorem d_N_runs_89 : decode prog_13_method_27_code 89 = .ok (.aload_n 0, 1) := by decide +kernel
theorem d_N_runs_90 : decode prog_13_method_27_code 90 = .ok (.getfield 40, 3) := by decide +kernel
theorem d_N_runs_93 : decode prog_13_method_27_code 93 = .ok (.iload_n 3, 1) := by decide +kernel
theorem d_N_runs_94 : decode prog_13_method_27_code 94 = .ok (.iaload, 1) := by decide +kernel
theorem d_N_runs_95 : decode prog_13_method_27_code 95 = .ok (.if_icmp .le 19, 3) := by decide +kernel
theorem d_N_runs_98 : decode prog_13_method_27_code 98 = .ok (.aload_n 0, 1) := by decide +kernel
theorem d_N_runs_99 : decode prog_13_method_27_code 99 = .ok (.getfield 28, 3) := by decide +kernel
theorem d_N_runs_102 : decode prog_13_method_27_code 102 = .ok (.iload_n 2, 1) := by decide +kernel
theorem d_N_runs_103 : decode prog_13_method_27_code 103 = .ok (.iaload, 1) := by decide +kernel
theorem d_N_runs_104 : decode prog_13_method_27_code 104 = .ok (.aload_n 0, 1) := by decide +kernel
theorem d_N_runs_105 : decode prog_13_method_27_code 105 = .ok (.getfield 40, 3) := by decide +kernel
theorem d_N_runs_108 : decode prog_13_method_27_code 108 = .ok (.iload_n 3, 1) := by decide +kernel
theorem d_N_runs_109 : decode prog_13_method_27_code 109 = .ok (.iaload, 1) := by decide +kernel
theorem d_N_runs_110 : decode prog_13_method_27_code 110 = .ok (.isub, 1) := by decide +kernel
theorem d_N_runs_111 : decode prog_13_method_27_code 111 = .ok (.goto 4, 3) := by decide +kernel
theorem d_N_runs_114 : decode prog_13_method_27_code 114 = .ok (.iconst 0, 1) := by decide +kernel
theorem d_N_runs_115 : decode prog_13_method_27_code 115 = .ok (.iastore, 1) := by decide +kernel
theorem d_N_runs_116 : decode prog_13_method_27_code 116 = .ok (.aload_n 0, 1) := by decide +kernel
theorem d_N_runs_117 : decode prog_13_method_27_code 117 = .ok (.getfield 46, 3) := by decide +kernel
theorem d_N_runs_120 : decode prog_13_method_27_code 120 = .ok (.iload_n 3, 1) := by decide +kernel
theorem d_N_runs_121 : decode prog_13_method_27_code 121 = .ok (.dup2, 1) := by decide +kernel
theorem d_N_runs_122 : decode prog_13_method_27_code 122 = .ok (.iaload, 1) := by decide +kernel
theorem d_N_runs_123 : decode prog_13_method_27_code 123 = .ok (.aload_n 0, 1) := by decide +kernel
theorem d_N_runs_124 : decode prog_13_method_27_code 124 = .ok (.getfield 52, 3) := by decide +kernel
theorem d_N_runs_127 : decode prog_13_method_27_code 127 = .ok (.iload_n 3, 1) := by decide +kernel
theorem d_N_runs_128 : decode prog_13_method_27_code 128 = .ok (.iaload, 1) := by decide +kernel
theorem d_N_runs_129 : decode prog_13_method_27_code 129 = .ok (.iadd, 1) := by decide +kernel
theorem d_N_runs_130 : decode prog_13_method_27_code 130 = .ok (.iastore, 1) := by decide +kernel
theorem d_N_runs_131 : decode prog_13_method_27_code 131 = .ok (.iinc 3 1, 3) := by decide +kernel
theorem d_N_runs_134 : decode prog_13_method_27_code 134 = .ok (.goto (-64), 3) := by decide +kernel
theorem d_N_runs_137 : decode prog_13_method_27_code 137 = .ok (.iconst 0, 1) := by decide +kernel
theorem d_N_runs_138 : decode prog_13_method_27_code 138 = .ok (.istore_n 3, 1) := by decide +kernel
theorem d_N_runs_139 : decode prog_13_method_27_code 139 = .ok (.iload_n 3, 1) := by decide +kernel
theorem d_N_runs_140 : decode prog_13_method_27_code 140 = .ok (.aload_n 0, 1) := by decide +kernel
theorem d_N_runs_141 : decode prog_13_method_27_code 141 = .ok (.getfield 109, 3) := by decide +kernel
theorem d_N_runs_144 : decode prog_13_method_27_code 144 = .ok (.if_icmp .ge 39, 3) := by decide +kernel
theorem d_N_runs_147 : decode prog_13_method_27_code 147 = .ok (.aload_n 0, 1) := by decide +kernel
theorem d_N_runs_148 : decode prog_13_method_27_code 148 = .ok (.getfield 58, 3) := by decide +kernel
theorem d_N_runs_151 : decode prog_13_method_27_code 151 = .ok (.aload_n 0, 1) := by decide +kernel
theorem d_N_runs_152 : decode prog_13_method_27_code 152 = .ok (.getfield 25, 3) := by decide +kernel
theorem d_N_runs_155 : decode prog_13_method_27_code 155 = .ok (.iload_n 3, 1) := by decide +kernel
theorem d_N_runs_156 : decode prog_13_method_27_code 156 = .ok (.iaload, 1) := by decide +kernel
theorem d_N_runs_157 : decode prog_13_method_27_code 157 = .ok (.aload_n 0, 1) := by decide +kernel
theorem d_N_runs_158 : decode prog_13_method_27_code 158 = .ok (.iload_n 3, 1) := by decide +kernel
theorem d_N_runs_159 : decode prog_13_method_27_code 159 = .ok (.aload_n 0, 1) := by decide +kernel
theorem d_N_runs_160 : decode prog_13_method_27_code 160 = .ok (.getfield 25, 3) := by decide +kernel
theorem d_N_runs_163 : decode prog_13_method_27_code 163 = .ok (.iload_n 3, 1) := by decide +kernel
theorem d_N_runs_164 : decode prog_13_method_27_code 164 = .ok (.iaload, 1) := by decide +kernel
theorem d_N_runs_165 : decode prog_13_method_27_code 165 = .ok (.invokevirtual 159, 3) := by decide +kernel
theorem d_N_runs_168 : decode prog_13_method_27_code 168 = .ok (.ifCond .eq 7, 3) := by decide +kernel
theorem d_N_runs_171 : decode prog_13_method_27_code 171 = .ok (.iconst 1, 1) := by decide +kernel
theorem d_N_runs_172 : decode prog_13_method_27_code 172 = .ok (.goto 4, 3) := by decide +kernel
theorem d_N_runs_175 : decode prog_13_method_27_code 175 = .ok (.iconst 0, 1) := by decide +kernel
theorem d_N_runs_176 : decode prog_13_method_27_code 176 = .ok (.iastore, 1) := by decide +kernel
theorem d_N_runs_177 : decode prog_13_method_27_code 177 = .ok (.iinc 3 1, 3) := by decide +kernel
theorem d_N_runs_180 : decode prog_13_method_27_code 180 = .ok (.goto (-41), 3) := by decide +kernel
theorem d_N_runs_183 : decode prog_13_method_27_code 183 = .ok (.iconst 0, 1) := by decide +kernel
theorem d_N_runs_184 : decode prog_13_method_27_code 184 = .ok (.istore_n 3, 1) := by decide +kernel
theorem d_N_runs_185 : decode prog_13_method_27_code 185 = .ok (.iload_n 3, 1) := by decide +kernel
theorem d_N_runs_186 : decode prog_13_method_27_code 186 = .ok (.aload_n 0, 1) := by decide +kernel
theorem d_N_runs_187 : decode prog_13_method_27_code 187 = .ok (.getfield 109, 3) := by decide +kernel
theorem d_N_runs_190 : decode prog_13_method_27_code 190 = .ok (.if_icmp .ge 132, 3) := by decide +kernel
theorem d_N_runs_193 : decode prog_13_method_27_code 193 = .ok (.aload_n 0, 1) := by decide +kernel
theorem d_N_runs_194 : decode prog_13_method_27_code 194 = .ok (.getfield 25, 3) := by decide +kernel
theorem d_N_runs_197 : decode prog_13_method_27_code 197 = .ok (.iload_n 3, 1) := by decide +kernel
theorem d_N_runs_198 : decode prog_13_method_27_code 198 = .ok (.iaload, 1) := by decide +kernel
theorem d_N_runs_199 : decode prog_13_method_27_code 199 = .ok (.istore 4, 2) := by decide +kernel
theorem d_N_runs_201 : decode prog_13_method_27_code 201 = .ok (.aload_n 0, 1) := by decide +kernel
theorem d_N_runs_202 : decode prog_13_method_27_code 202 = .ok (.getfield 43, 3) := by decide +kernel
theorem d_N_runs_205 : decode prog_13_method_27_code 205 = .ok (.iload_n 3, 1) := by decide +kernel
theorem d_N_runs_206 : decode prog_13_method_27_code 206 = .ok (.dup2, 1) := by decide +kernel
theorem d_N_runs_207 : decode prog_13_method_27_code 207 = .ok (.iaload, 1) := by decide +kernel
theorem d_N_runs_208 : decode prog_13_method_27_code 208 = .ok (.aload_n 0, 1) := by decide +kernel
theorem d_N_runs_209 : decode prog_13_method_27_code 209 = .ok (.getfield 58, 3) := by decide +kernel
theorem d_N_runs_212 : decode prog_13_method_27_code 212 = .ok (.iload 4, 2) := by decide +kernel
theorem d_N_runs_214 : decode prog_13_method_27_code 214 = .ok (.iaload, 1) := by decide +kernel
theorem d_N_runs_215 : decode prog_13_method_27_code 215 = .ok (.aload_n 0, 1) := by decide +kernel
theorem d_N_runs_216 : decode prog_13_method_27_code 216 = .ok (.getfield 31, 3) := by decide +kernel
theorem d_N_runs_219 : decode prog_13_method_27_code 219 = .ok (.iconst 0, 1) := by decide +kernel
theorem d_N_runs_220 : decode prog_13_method_27_code 220 = .ok (.iaload, 1) := by decide +kernel
theorem d_N_runs_221 : decode prog_13_method_27_code 221 = .ok (.imul, 1) := by decide +kernel
theorem d_N_runs_222 : decode prog_13_method_27_code 222 = .ok (.isub, 1) := by decide +kernel
theorem d_N_runs_223 : decode prog_13_method_27_code 223 = .ok (.iastore, 1) := by decide +kernel
theorem d_N_runs_224 : decode prog_13_method_27_code 224 = .ok (.aload_n 0, 1) := by decide +kernel
theorem d_N_runs_225 : decode prog_13_method_27_code 225 = .ok (.getfield 31, 3) := by decide +kernel
theorem d_N_runs_228 : decode prog_13_method_27_code 228 = .ok (.iconst 1, 1) := by decide +kernel
theorem d_N_runs_229 : decode prog_13_method_27_code 229 = .ok (.iaload, 1) := by decide +kernel
theorem d_N_runs_230 : decode prog_13_method_27_code 230 = .ok (.iconst 1, 1) := by decide +kernel
theorem d_N_runs_231 : decode prog_13_method_27_code 231 = .ok (.if_icmp .ne 37, 3) := by decide +kernel
theorem d_N_runs_234 : decode prog_13_method_27_code 234 = .ok (.aload_n 0, 1) := by decide +kernel
theorem d_N_runs_235 : decode prog_13_method_27_code 235 = .ok (.getfield 58, 3) := by decide +kernel
theorem d_N_runs_238 : decode prog_13_method_27_code 238 = .ok (.iload 4, 2) := by decide +kernel
theorem d_N_runs_240 : decode prog_13_method_27_code 240 = .ok (.iaload, 1) := by decide +kernel
theorem d_N_runs_241 : decode prog_13_method_27_code 241 = .ok (.ifCond .ne 27, 3) := by decide +kernel
theorem d_N_runs_244 : decode prog_13_method_27_code 244 = .ok (.aload_n 0, 1) := by decide +kernel
theorem d_N_runs_245 : decode prog_13_method_27_code 245 = .ok (.getfield 52, 3) := by decide +kernel
theorem d_N_runs_248 : decode prog_13_method_27_code 248 = .ok (.iload 4, 2) := by decide +kernel
theorem d_N_runs_250 : decode prog_13_method_27_code 250 = .ok (.iaload, 1) := by decide +kernel
theorem d_N_runs_251 : decode prog_13_method_27_code 251 = .ok (.ifCond .le 17, 3) := by decide +kernel
theorem d_N_runs_254 : decode prog_13_method_27_code 254 = .ok (.aload_n 0, 1) := by decide +kernel
theorem d_N_runs_255 : decode prog_13_method_27_code 255 = .ok (.getfield 40, 3) := by decide +kernel
theorem d_N_runs_258 : decode prog_13_method_27_code 258 = .ok (.iload 4, 2) := by decide +kernel
theorem d_N_runs_260 : decode prog_13_method_27_code 260 = .ok (.iaload, 1) := by decide +kernel
theorem d_N_runs_261 : decode prog_13_method_27_code 261 = .ok (.ifCond .le 7, 3) := by decide +kernel
theorem d_N_runs_264 : decode prog_13_method_27_code 264 = .ok (.iconst 1, 1) := by decide +kernel
theorem d_N_runs_265 : decode prog_13_method_27_code 265 = .ok (.goto 4, 3) := by decide +kernel
theorem d_N_runs_268 : decode prog_13_method_27_code 268 = .ok (.iconst 0, 1) := by decide +kernel
theorem d_N_runs_269 : decode prog_13_method_27_code 269 = .ok (.istore 5, 2) := by decide +kernel
theorem d_N_runs_271 : decode prog_13_method_27_code 271 = .ok (.aload_n 0, 1) := by decide +kernel
theorem d_N_runs_272 : decode prog_13_method_27_code 272 = .ok (.getfield 40, 3) := by decide +kernel
theorem d_N_runs_275 : decode prog_13_method_27_code 275 = .ok (.iload 4, 2) := by decide +kernel
theorem d_N_runs_277 : decode prog_13_method_27_code 277 = .ok (.dup2, 1) := by decide +kernel
theorem d_N_runs_278 : decode prog_13_method_27_code 278 = .ok (.iaload, 1) := by decide +kernel
theorem d_N_runs_279 : decode prog_13_method_27_code 279 = .ok (.aload_n 0, 1) := by decide +kernel
theorem d_N_runs_280 : decode prog_13_method_27_code 280 = .ok (.getfield 58, 3) := by decide +kernel
theorem d_N_runs_283 : decode prog_13_method_27_code 283 = .ok (.iload 4, 2) := by decide +kernel
theorem d_N_runs_285 : decode prog_13_method_27_code 285 = .ok (.iaload, 1) := by decide +kernel
theorem d_N_runs_286 : decode prog_13_method_27_code 286 = .ok (.iload 5, 2) := by decide +kernel
theorem d_N_runs_288 : decode prog_13_method_27_code 288 = .ok (.ifCond .eq 7, 3) := by decide +kernel
theorem d_N_runs_291 : decode prog_13_method_27_code 291 = .ok (.iconst 1, 1) := by decide +kernel
theorem d_N_runs_292 : decode prog_13_method_27_code 292 = .ok (.goto 4, 3) := by decide +kernel
theorem d_N_runs_295 : decode prog_13_method_27_code 295 = .ok (.iconst 0, 1) := by decide +kernel
theorem d_N_runs_296 : decode prog_13_method_27_code 296 = .ok (.isub, 1) := by decide +kernel
theorem d_N_runs_297 : decode prog_13_method_27_code 297 = .ok (.iadd, 1) := by decide +kernel
theorem d_N_runs_298 : decode prog_13_method_27_code 298 = .ok (.iastore, 1) := by decide +kernel
theorem d_N_runs_299 : decode prog_13_method_27_code 299 = .ok (.aload_n 0, 1) := by decide +kernel
theorem d_N_runs_300 : decode prog_13_method_27_code 300 = .ok (.getfield 49, 3) := by decide +kernel
theorem d_N_runs_303 : decode prog_13_method_27_code 303 = .ok (.iload 4, 2) := by decide +kernel
theorem d_N_runs_305 : decode prog_13_method_27_code 305 = .ok (.dup2, 1) := by decide +kernel
theorem d_N_runs_306 : decode prog_13_method_27_code 306 = .ok (.iaload, 1) := by decide +kernel
theorem d_N_runs_307 : decode prog_13_method_27_code 307 = .ok (.aload_n 0, 1) := by decide +kernel
theorem d_N_runs_308 : decode prog_13_method_27_code 308 = .ok (.getfield 58, 3) := by decide +kernel
theorem d_N_runs_311 : decode prog_13_method_27_code 311 = .ok (.iload 4, 2) := by decide +kernel
theorem d_N_runs_313 : decode prog_13_method_27_code 313 = .ok (.iaload, 1) := by decide +kernel
theorem d_N_runs_314 : decode prog_13_method_27_code 314 = .ok (.iadd, 1) := by decide +kernel
theorem d_N_runs_315 : decode prog_13_method_27_code 315 = .ok (.iastore, 1) := by decide +kernel
theorem d_N_runs_316 : decode prog_13_method_27_code 316 = .ok (.iinc 3 1, 3) := by decide +kernel
theorem d_N_runs_319 : decode prog_13_method_27_code 319 = .ok (.goto (-134), 3) := by decide +kernel
theorem d_N_runs_322 : decode prog_13_method_27_code 322 = .ok (.iconst 0, 1) := by decide +kernel
theorem d_N_runs_323 : decode prog_13_method_27_code 323 = .ok (.istore_n 3, 1) := by decide +kernel
theorem d_N_runs_324 : decode prog_13_method_27_code 324 = .ok (.iload_n 3, 1) := by decide +kernel
theorem d_N_runs_325 : decode prog_13_method_27_code 325 = .ok (.aload_n 0, 1) := by decide +kernel
theorem d_N_runs_326 : decode prog_13_method_27_code 326 = .ok (.getfield 109, 3) := by decide +kernel
theorem d_N_runs_329 : decode prog_13_method_27_code 329 = .ok (.if_icmp .ge 21, 3) := by decide +kernel
theorem d_N_runs_332 : decode prog_13_method_27_code 332 = .ok (.aload_n 0, 1) := by decide +kernel
theorem d_N_runs_333 : decode prog_13_method_27_code 333 = .ok (.getfield 55, 3) := by decide +kernel
theorem d_N_runs_336 : decode prog_13_method_27_code 336 = .ok (.iload_n 3, 1) := by decide +kernel
theorem d_N_runs_337 : decode prog_13_method_27_code 337 = .ok (.aload_n 0, 1) := by decide +kernel
theorem d_N_runs_338 : decode prog_13_method_27_code 338 = .ok (.getfield 58, 3) := by decide +kernel
theorem d_N_runs_341 : decode prog_13_method_27_code 341 = .ok (.iload_n 3, 1) := by decide +kernel
theorem d_N_runs_342 : decode prog_13_method_27_code 342 = .ok (.iaload, 1) := by decide +kernel
theorem d_N_runs_343 : decode prog_13_method_27_code 343 = .ok (.iastore, 1) := by decide +kernel
theorem d_N_runs_344 : decode prog_13_method_27_code 344 = .ok (.iinc 3 1, 3) := by decide +kernel
theorem d_N_runs_347 : decode prog_13_method_27_code 347 = .ok (.goto (-23), 3) := by decide +kernel
theorem d_N_runs_350 : decode prog_13_method_27_code 350 = .ok (.iinc 2 1, 3) := by decide +kernel
theorem d_N_runs_353 : decode prog_13_method_27_code 353 = .ok (.goto (-290), 3) := by decide +kernel
theorem d_N_runs_356 : decode prog_13_method_27_code 356 = .ok (.return_, 1) := by decide +kernel
def b_N_runs_356 (c0 : ra_Sp) (I : Nat → ra_K) (Z : ra_R) : ra_K := w_vr Z
def b_N_runs_350 (c0 : ra_Sp) (I : Nat → ra_K) (Z : ra_R) : ra_K := w_inc 2 1 <| (I 63)
def b_N_runs_332 (c0 : ra_Sp) (I : Nat → ra_K) (Z : ra_R) : ra_K := w_al 0 <| w_gr 11 17 <| w_il 3 <| w_al 0 <| w_gr 11 18 <| w_il 3 <| w_ald <| w_ast <| w_inc 3 1 <| (I 324)
def b_N_runs_324 (c0 : ra_Sp) (I : Nat → ra_K) (Z : ra_R) : ra_K := w_il 3 <| w_al 0 <| w_gi 11 2 <| w_b2 (fun x y => y ≤ x) (b_N_runs_350 c0 I Z) (b_N_runs_332 c0 I Z)
def b_N_runs_322 (c0 : ra_Sp) (I : Nat → ra_K) (Z : ra_R) : ra_K := w_c 0 <| w_is 3 <| (I 324)
def b_N_runs_296 (c0 : ra_Sp) (I : Nat → ra_K) (Z : ra_R) : ra_K := w_i2 (fun x y => x - y) <| w_i2 (fun x y => x + y) <| w_ast <| w_al 0 <| w_gr 11 15 <| w_il 4 <| w_dup2 <| w_ald <| w_al 0 <| w_gr 11 18 <| w_il 4 <| w_ald <| w_i2 (fun x y => x + y) <| w_ast <| w_inc 3 1 <| (I 185)
def b_N_runs_295 (c0 : ra_Sp) (I : Nat → ra_K) (Z : ra_R) : ra_K := w_c 0 <| (b_N_runs_296 c0 I Z)
def b_N_runs_291 (c0 : ra_Sp) (I : Nat → ra_K) (Z : ra_R) : ra_K := w_c 1 <| (b_N_runs_296 c0 I Z)
def b_N_runs_269 (c0 : ra_Sp) (I : Nat → ra_K) (Z : ra_R) : ra_K := w_is 5 <| w_al 0 <| w_gr 11 12 <| w_il 4 <| w_dup2 <| w_ald <| w_al 0 <| w_gr 11 18 <| w_il 4 <| w_ald <| w_il 5 <| w_b1 (fun x => x = 0) (b_N_runs_295 c0 I Z) (b_N_runs_291 c0 I Z)
def b_N_runs_268 (c0 : ra_Sp) (I : Nat → ra_K) (Z : ra_R) : ra_K := w_c 0 <| (b_N_runs_269 c0 I Z)
def b_N_runs_264 (c0 : ra_Sp) (I : Nat → ra_K) (Z : ra_R) : ra_K := w_c 1 <| (b_N_runs_269 c0 I Z)
def b_N_runs_254 (c0 : ra_Sp) (I : Nat → ra_K) (Z : ra_R) : ra_K := w_al 0 <| w_gr 11 12 <| w_il 4 <| w_ald <| w_b1 (fun x => x ≤ 0) (b_N_runs_268 c0 I Z) (b_N_runs_264 c0 I Z)
def b_N_runs_244 (c0 : ra_Sp) (I : Nat → ra_K) (Z : ra_R) : ra_K := w_al 0 <| w_gr 11 16 <| w_il 4 <| w_ald <| w_b1 (fun x => x ≤ 0) (b_N_runs_268 c0 I Z) (b_N_runs_254 c0 I Z)
def b_N_runs_234 (c0 : ra_Sp) (I : Nat → ra_K) (Z : ra_R) : ra_K := w_al 0 <| w_gr 11 18 <| w_il 4 <| w_ald <| w_b1 (fun x => x = 0) (b_N_runs_244 c0 I Z) (b_N_runs_268 c0 I Z)
def b_N_runs_193 (c0 : ra_Sp) (I : Nat → ra_K) (Z : ra_R) : ra_K := w_al 0 <| w_gr 11 6 <| w_il 3 <| w_ald <| w_is 4 <| w_al 0 <| w_gr 11 13 <| w_il 3 <| w_dup2 <| w_ald <| w_al 0 <| w_gr 11 18 <| w_il 4 <| w_ald <| w_al 0 <| w_gr 11 9 <| w_c 0 <| w_ald <| w_i2 (fun x y => x * y) <| w_i2 (fun x y => x - y) <| w_ast <| w_al 0 <| w_gr 11 9 <| w_c 1 <| w_ald <| w_c 1 <| w_b2 (fun x y => x = y) (b_N_runs_234 c0 I Z) (b_N_runs_268 c0 I Z)
def b_N_runs_185 (c0 : ra_Sp) (I : Nat → ra_K) (Z : ra_R) : ra_K := w_il 3 <| w_al 0 <| w_gi 11 2 <| w_b2 (fun x y => y ≤ x) (b_N_runs_322 c0 I Z) (b_N_runs_193 c0 I Z)
def b_N_runs_183 (c0 : ra_Sp) (I : Nat → ra_K) (Z : ra_R) : ra_K := w_c 0 <| w_is 3 <| (I 185)
def b_N_runs_176 (c0 : ra_Sp) (I : Nat → ra_K) (Z : ra_R) : ra_K := w_ast <| w_inc 3 1 <| (I 139)
def b_N_runs_175 (c0 : ra_Sp) (I : Nat → ra_K) (Z : ra_R) : ra_K := w_c 0 <| (b_N_runs_176 c0 I Z)
def b_N_runs_171 (c0 : ra_Sp) (I : Nat → ra_K) (Z : ra_R) : ra_K := w_c 1 <| (b_N_runs_176 c0 I Z)
def b_N_runs_147 (c0 : ra_Sp) (I : Nat → ra_K) (Z : ra_R) : ra_K := w_al 0 <| w_gr 11 18 <| w_al 0 <| w_gr 11 6 <| w_il 3 <| w_ald <| w_al 0 <| w_il 3 <| w_al 0 <| w_gr 11 6 <| w_il 3 <| w_ald <| w_cv c0 3 11 <| w_b1 (fun x => x = 0) (b_N_runs_175 c0 I Z) (b_N_runs_171 c0 I Z)
def b_N_runs_139 (c0 : ra_Sp) (I : Nat → ra_K) (Z : ra_R) : ra_K := w_il 3 <| w_al 0 <| w_gi 11 2 <| w_b2 (fun x y => y ≤ x) (b_N_runs_183 c0 I Z) (b_N_runs_147 c0 I Z)
def b_N_runs_137 (c0 : ra_Sp) (I : Nat → ra_K) (Z : ra_R) : ra_K := w_c 0 <| w_is 3 <| (I 139)
def b_N_runs_115 (c0 : ra_Sp) (I : Nat → ra_K) (Z : ra_R) : ra_K := w_ast <| w_al 0 <| w_gr 11 14 <| w_il 3 <| w_dup2 <| w_ald <| w_al 0 <| w_gr 11 16 <| w_il 3 <| w_ald <| w_i2 (fun x y => x + y) <| w_ast <| w_inc 3 1 <| (I 70)
def b_N_runs_114 (c0 : ra_Sp) (I : Nat → ra_K) (Z : ra_R) : ra_K := w_c 0 <| (b_N_runs_115 c0 I Z)
def b_N_runs_98 (c0 : ra_Sp) (I : Nat → ra_K) (Z : ra_R) : ra_K := w_al 0 <| w_gr 11 8 <| w_il 2 <| w_ald <| w_al 0 <| w_gr 11 12 <| w_il 3 <| w_ald <| w_i2 (fun x y => x - y) <| (b_N_runs_115 c0 I Z)
def b_N_runs_78 (c0 : ra_Sp) (I : Nat → ra_K) (Z : ra_R) : ra_K := w_al 0 <| w_gr 11 16 <| w_il 3 <| w_al 0 <| w_gr 11 8 <| w_il 2 <| w_ald <| w_al 0 <| w_gr 11 12 <| w_il 3 <| w_ald <| w_b2 (fun x y => x ≤ y) (b_N_runs_114 c0 I Z) (b_N_runs_98 c0 I Z)
def b_N_runs_70 (c0 : ra_Sp) (I : Nat → ra_K) (Z : ra_R) : ra_K := w_il 3 <| w_al 0 <| w_gi 11 2 <| w_b2 (fun x y => y ≤ x) (b_N_runs_137 c0 I Z) (b_N_runs_78 c0 I Z)
def b_N_runs_68 (c0 : ra_Sp) (I : Nat → ra_K) (Z : ra_R) : ra_K := w_c 0 <| w_is 3 <| (I 70)
def b_N_runs_63 (c0 : ra_Sp) (I : Nat → ra_K) (Z : ra_R) : ra_K := w_il 2 <| w_il 1 <| w_b2 (fun x y => y ≤ x) (b_N_runs_356 c0 I Z) (b_N_runs_68 c0 I Z)
def b_N_runs_61 (c0 : ra_Sp) (I : Nat → ra_K) (Z : ra_R) : ra_K := w_c 0 <| w_is 2 <| (I 63)
def b_N_runs_10 (c0 : ra_Sp) (I : Nat → ra_K) (Z : ra_R) : ra_K := w_al 0 <| w_gr 11 12 <| w_il 2 <| w_al 0 <| w_gr 11 3 <| w_il 2 <| w_ald <| w_ast <| w_al 0 <| w_gr 11 13 <| w_il 2 <| w_al 0 <| w_gr 11 4 <| w_il 2 <| w_ald <| w_ast <| w_al 0 <| w_gr 11 14 <| w_il 2 <| w_c 0 <| w_ast <| w_al 0 <| w_gr 11 15 <| w_il 2 <| w_c 0 <| w_ast <| w_al 0 <| w_gr 11 17 <| w_il 2 <| w_c 0 <| w_ast <| w_inc 2 1 <| (I 2)
def b_N_runs_2 (c0 : ra_Sp) (I : Nat → ra_K) (Z : ra_R) : ra_K := w_il 2 <| w_al 0 <| w_gi 11 2 <| w_b2 (fun x y => y ≤ x) (b_N_runs_61 c0 I Z) (b_N_runs_10 c0 I Z)
def b_N_runs_0 (c0 : ra_Sp) (I : Nat → ra_K) (Z : ra_R) : ra_K := w_c 0 <| w_is 2 <| (I 2)
theorem o_N_runs_356 {X : ra_X} {p : Program} {l : Launch} {e : Env} {s : State} {m : MethodId} {args : Array Value} {below : List Frame} {meth : Method} {c : Code} {Z : ra_R} {c0 : ra_Sp}  (h0 : ra_MOK l X mi_N_doesLay c0) (F : ra_Fx X p rm_N_runs s m args c prog_13_method_27_code 6 cn_N) (hr : meth.sig.returnType = none) (hlk : meth.locks = false) {I : Nat → ra_K} (hI : ∀ t ∈ [2, 63, 70, 139, 185, 324], ra_At X p l e rm_N_runs s m args below meth c 6 (MQ below (ra_Qc X Z) args s 0 0 (ra_A X)) (I t) t) : ra_At X p l e rm_N_runs s m args below meth c 6 (MQ below (ra_Qc X Z) args s 0 0 (ra_A X)) (b_N_runs_356 c0 I Z) 356 :=
  r_return F hr hlk d_N_runs_356
theorem o_N_runs_350 {X : ra_X} {p : Program} {l : Launch} {e : Env} {s : State} {m : MethodId} {args : Array Value} {below : List Frame} {meth : Method} {c : Code} {Z : ra_R} {c0 : ra_Sp}  (h0 : ra_MOK l X mi_N_doesLay c0) (F : ra_Fx X p rm_N_runs s m args c prog_13_method_27_code 6 cn_N) (hr : meth.sig.returnType = none) (hlk : meth.locks = false) {I : Nat → ra_K} (hI : ∀ t ∈ [2, 63, 70, 139, 185, 324], ra_At X p l e rm_N_runs s m args below meth c 6 (MQ below (ra_Qc X Z) args s 0 0 (ra_A X)) (I t) t) : ra_At X p l e rm_N_runs s m args below meth c 6 (MQ below (ra_Qc X Z) args s 0 0 (ra_A X)) (b_N_runs_350 c0 I Z) 350 :=
  r_iinc F d_N_runs_350 (by decide) (by decide) <| r_goto F d_N_runs_353 (by decide) (hI 63 (by decide))
theorem o_N_runs_332 {X : ra_X} {p : Program} {l : Launch} {e : Env} {s : State} {m : MethodId} {args : Array Value} {below : List Frame} {meth : Method} {c : Code} {Z : ra_R} {c0 : ra_Sp}  (h0 : ra_MOK l X mi_N_doesLay c0) (F : ra_Fx X p rm_N_runs s m args c prog_13_method_27_code 6 cn_N) (hr : meth.sig.returnType = none) (hlk : meth.locks = false) {I : Nat → ra_K} (hI : ∀ t ∈ [2, 63, 70, 139, 185, 324], ra_At X p l e rm_N_runs s m args below meth c 6 (MQ below (ra_Qc X Z) args s 0 0 (ra_A X)) (I t) t) : ra_At X p l e rm_N_runs s m args below meth c 6 (MQ below (ra_Qc X Z) args s 0 0 (ra_A X)) (b_N_runs_332 c0 I Z) 332 :=
  r_aload_n F d_N_runs_332 rfl <| r_getR F cg_N (j := 17) (by decide) rfl fl_N_55 d_N_runs_333 <| r_iload_n F d_N_runs_336 rfl <| r_aload_n F d_N_runs_337 rfl <| r_getR F cg_N (j := 18) (by decide) rfl fl_N_58 d_N_runs_338 <| r_iload_n F d_N_runs_341 rfl <| r_iaload F d_N_runs_342 <| r_iastore F d_N_runs_343 <| r_iinc F d_N_runs_344 (by decide) (by decide) <| r_goto F d_N_runs_347 (by decide) (hI 324 (by decide))
theorem o_N_runs_324 {X : ra_X} {p : Program} {l : Launch} {e : Env} {s : State} {m : MethodId} {args : Array Value} {below : List Frame} {meth : Method} {c : Code} {Z : ra_R} {c0 : ra_Sp}  (h0 : ra_MOK l X mi_N_doesLay c0) (F : ra_Fx X p rm_N_runs s m args c prog_13_method_27_code 6 cn_N) (hr : meth.sig.returnType = none) (hlk : meth.locks = false) {I : Nat → ra_K} (hI : ∀ t ∈ [2, 63, 70, 139, 185, 324], ra_At X p l e rm_N_runs s m args below meth c 6 (MQ below (ra_Qc X Z) args s 0 0 (ra_A X)) (I t) t) : ra_At X p l e rm_N_runs s m args below meth c 6 (MQ below (ra_Qc X Z) args s 0 0 (ra_A X)) (b_N_runs_324 c0 I Z) 324 :=
  r_iload_n F d_N_runs_324 rfl <| r_aload_n F d_N_runs_325 rfl <| r_getI F cg_N (j := 2) (by decide) rfl fl_N_109 d_N_runs_326 <| r_icmp_ge F d_N_runs_329 (by decide) (o_N_runs_350 h0 F hr hlk hI) (o_N_runs_332 h0 F hr hlk hI)
theorem o_N_runs_322 {X : ra_X} {p : Program} {l : Launch} {e : Env} {s : State} {m : MethodId} {args : Array Value} {below : List Frame} {meth : Method} {c : Code} {Z : ra_R} {c0 : ra_Sp}  (h0 : ra_MOK l X mi_N_doesLay c0) (F : ra_Fx X p rm_N_runs s m args c prog_13_method_27_code 6 cn_N) (hr : meth.sig.returnType = none) (hlk : meth.locks = false) {I : Nat → ra_K} (hI : ∀ t ∈ [2, 63, 70, 139, 185, 324], ra_At X p l e rm_N_runs s m args below meth c 6 (MQ below (ra_Qc X Z) args s 0 0 (ra_A X)) (I t) t) : ra_At X p l e rm_N_runs s m args below meth c 6 (MQ below (ra_Qc X Z) args s 0 0 (ra_A X)) (b_N_runs_322 c0 I Z) 322 :=
  r_iconst F d_N_runs_322 (by decide) <| r_istore_n F d_N_runs_323 rfl (by decide) <| (hI 324 (by decide))
theorem o_N_runs_296 {X : ra_X} {p : Program} {l : Launch} {e : Env} {s : State} {m : MethodId} {args : Array Value} {below : List Frame} {meth : Method} {c : Code} {Z : ra_R} {c0 : ra_Sp}  (h0 : ra_MOK l X mi_N_doesLay c0) (F : ra_Fx X p rm_N_runs s m args c prog_13_method_27_code 6 cn_N) (hr : meth.sig.returnType = none) (hlk : meth.locks = false) {I : Nat → ra_K} (hI : ∀ t ∈ [2, 63, 70, 139, 185, 324], ra_At X p l e rm_N_runs s m args below meth c 6 (MQ below (ra_Qc X Z) args s 0 0 (ra_A X)) (I t) t) : ra_At X p l e rm_N_runs s m args below meth c 6 (MQ below (ra_Qc X Z) args s 0 0 (ra_A X)) (b_N_runs_296 c0 I Z) 296 :=
  r_isub F d_N_runs_296 <| r_iadd F d_N_runs_297 <| r_iastore F d_N_runs_298 <| r_aload_n F d_N_runs_299 rfl <| r_getR F cg_N (j := 15) (by decide) rfl fl_N_49 d_N_runs_300 <| r_iload F d_N_runs_303 <| r_dup2 F d_N_runs_305 <| r_iaload F d_N_runs_306 <| r_aload_n F d_N_runs_307 rfl <| r_getR F cg_N (j := 18) (by decide) rfl fl_N_58 d_N_runs_308 <| r_iload F d_N_runs_311 <| r_iaload F d_N_runs_313 <| r_iadd F d_N_runs_314 <| r_iastore F d_N_runs_315 <| r_iinc F d_N_runs_316 (by decide) (by decide) <| r_goto F d_N_runs_319 (by decide) (hI 185 (by decide))
theorem o_N_runs_295 {X : ra_X} {p : Program} {l : Launch} {e : Env} {s : State} {m : MethodId} {args : Array Value} {below : List Frame} {meth : Method} {c : Code} {Z : ra_R} {c0 : ra_Sp}  (h0 : ra_MOK l X mi_N_doesLay c0) (F : ra_Fx X p rm_N_runs s m args c prog_13_method_27_code 6 cn_N) (hr : meth.sig.returnType = none) (hlk : meth.locks = false) {I : Nat → ra_K} (hI : ∀ t ∈ [2, 63, 70, 139, 185, 324], ra_At X p l e rm_N_runs s m args below meth c 6 (MQ below (ra_Qc X Z) args s 0 0 (ra_A X)) (I t) t) : ra_At X p l e rm_N_runs s m args below meth c 6 (MQ below (ra_Qc X Z) args s 0 0 (ra_A X)) (b_N_runs_295 c0 I Z) 295 :=
  r_iconst F d_N_runs_295 (by decide) <| (o_N_runs_296 h0 F hr hlk hI)
theorem o_N_runs_291 {X : ra_X} {p : Program} {l : Launch} {e : Env} {s : State} {m : MethodId} {args : Array Value} {below : List Frame} {meth : Method} {c : Code} {Z : ra_R} {c0 : ra_Sp}  (h0 : ra_MOK l X mi_N_doesLay c0) (F : ra_Fx X p rm_N_runs s m args c prog_13_method_27_code 6 cn_N) (hr : meth.sig.returnType = none) (hlk : meth.locks = false) {I : Nat → ra_K} (hI : ∀ t ∈ [2, 63, 70, 139, 185, 324], ra_At X p l e rm_N_runs s m args below meth c 6 (MQ below (ra_Qc X Z) args s 0 0 (ra_A X)) (I t) t) : ra_At X p l e rm_N_runs s m args below meth c 6 (MQ below (ra_Qc X Z) args s 0 0 (ra_A X)) (b_N_runs_291 c0 I Z) 291 :=
  r_iconst F d_N_runs_291 (by decide) <| r_goto F d_N_runs_292 (by decide) (o_N_runs_296 h0 F hr hlk hI)
theorem o_N_runs_269 {X : ra_X} {p : Program} {l : Launch} {e : Env} {s : State} {m : MethodId} {args : Array Value} {below : List Frame} {meth : Method} {c : Code} {Z : ra_R} {c0 : ra_Sp}  (h0 : ra_MOK l X mi_N_doesLay c0) (F : ra_Fx X p rm_N_runs s m args c prog_13_method_27_code 6 cn_N) (hr : meth.sig.returnType = none) (hlk : meth.locks = false) {I : Nat → ra_K} (hI : ∀ t ∈ [2, 63, 70, 139, 185, 324], ra_At X p l e rm_N_runs s m args below meth c 6 (MQ below (ra_Qc X Z) args s 0 0 (ra_A X)) (I t) t) : ra_At X p l e rm_N_runs s m args below meth c 6 (MQ below (ra_Qc X Z) args s 0 0 (ra_A X)) (b_N_runs_269 c0 I Z) 269 :=
  r_istore F d_N_runs_269 (by decide) <| r_aload_n F d_N_runs_271 rfl <| r_getR F cg_N (j := 12) (by decide) rfl fl_N_40 d_N_runs_272 <| r_iload F d_N_runs_275 <| r_dup2 F d_N_runs_277 <| r_iaload F d_N_runs_278 <| r_aload_n F d_N_runs_279 rfl <| r_getR F cg_N (j := 18) (by decide) rfl fl_N_58 d_N_runs_280 <| r_iload F d_N_runs_283 <| r_iaload F d_N_runs_285 <| r_iload F d_N_runs_286 <| r_if_eq F d_N_runs_288 (by decide) (o_N_runs_295 h0 F hr hlk hI) (o_N_runs_291 h0 F hr hlk hI)
theorem o_N_runs_268 {X : ra_X} {p : Program} {l : Launch} {e : Env} {s : State} {m : MethodId} {args : Array Value} {below : List Frame} {meth : Method} {c : Code} {Z : ra_R} {c0 : ra_Sp}  (h0 : ra_MOK l X mi_N_doesLay c0) (F : ra_Fx X p rm_N_runs s m args c prog_13_method_27_code 6 cn_N) (hr : meth.sig.returnType = none) (hlk : meth.locks = false) {I : Nat → ra_K} (hI : ∀ t ∈ [2, 63, 70, 139, 185, 324], ra_At X p l e rm_N_runs s m args below meth c 6 (MQ below (ra_Qc X Z) args s 0 0 (ra_A X)) (I t) t) : ra_At X p l e rm_N_runs s m args below meth c 6 (MQ below (ra_Qc X Z) args s 0 0 (ra_A X)) (b_N_runs_268 c0 I Z) 268 :=
  r_iconst F d_N_runs_268 (by decide) <| (o_N_runs_269 h0 F hr hlk hI)
theorem o_N_runs_264 {X : ra_X} {p : Program} {l : Launch} {e : Env} {s : State} {m : MethodId} {args : Array Value} {below : List Frame} {meth : Method} {c : Code} {Z : ra_R} {c0 : ra_Sp}  (h0 : ra_MOK l X mi_N_doesLay c0) (F : ra_Fx X p rm_N_runs s m args c prog_13_method_27_code 6 cn_N) (hr : meth.sig.returnType = none) (hlk : meth.locks = false) {I : Nat → ra_K} (hI : ∀ t ∈ [2, 63, 70, 139, 185, 324], ra_At X p l e rm_N_runs s m args below meth c 6 (MQ below (ra_Qc X Z) args s 0 0 (ra_A X)) (I t) t) : ra_At X p l e rm_N_runs s m args below meth c 6 (MQ below (ra_Qc X Z) args s 0 0 (ra_A X)) (b_N_runs_264 c0 I Z) 264 :=
  r_iconst F d_N_runs_264 (by decide) <| r_goto F d_N_runs_265 (by decide) (o_N_runs_269 h0 F hr hlk hI)
theorem o_N_runs_254 {X : ra_X} {p : Program} {l : Launch} {e : Env} {s : State} {m : MethodId} {args : Array Value} {below : List Frame} {meth : Method} {c : Code} {Z : ra_R} {c0 : ra_Sp}  (h0 : ra_MOK l X mi_N_doesLay c0) (F : ra_Fx X p rm_N_runs s m args c prog_13_method_27_code 6 cn_N) (hr : meth.sig.returnType = none) (hlk : meth.locks = false) {I : Nat → ra_K} (hI : ∀ t ∈ [2, 63, 70, 139, 185, 324], ra_At X p l e rm_N_runs s m args below meth c 6 (MQ below (ra_Qc X Z) args s 0 0 (ra_A X)) (I t) t) : ra_At X p l e rm_N_runs s m args below meth c 6 (MQ below (ra_Qc X Z) args s 0 0 (ra_A X)) (b_N_runs_254 c0 I Z) 254 :=
  r_aload_n F d_N_runs_254 rfl <| r_getR F cg_N (j := 12) (by decide) rfl fl_N_40 d_N_runs_255 <| r_iload F d_N_runs_258 <| r_iaload F d_N_runs_260 <| r_if_le F d_N_runs_261 (by decide) (o_N_runs_268 h0 F hr hlk hI) (o_N_runs_264 h0 F hr hlk hI)
theorem o_N_runs_244 {X : ra_X} {p : Program} {l : Launch} {e : Env} {s : State} {m : MethodId} {args : Array Value} {below : List Frame} {meth : Method} {c : Code} {Z : ra_R} {c0 : ra_Sp}  (h0 : ra_MOK l X mi_N_doesLay c0) (F : ra_Fx X p rm_N_runs s m args c prog_13_method_27_code 6 cn_N) (hr : meth.sig.returnType = none) (hlk : meth.locks = false) {I : Nat → ra_K} (hI : ∀ t ∈ [2, 63, 70, 139, 185, 324], ra_At X p l e rm_N_runs s m args below meth c 6 (MQ below (ra_Qc X Z) args s 0 0 (ra_A X)) (I t) t) : ra_At X p l e rm_N_runs s m args below meth c 6 (MQ below (ra_Qc X Z) args s 0 0 (ra_A X)) (b_N_runs_244 c0 I Z) 244 :=
  r_aload_n F d_N_runs_244 rfl <| r_getR F cg_N (j := 16) (by decide) rfl fl_N_52 d_N_runs_245 <| r_iload F d_N_runs_248 <| r_iaload F d_N_runs_250 <| r_if_le F d_N_runs_251 (by decide) (o_N_runs_268 h0 F hr hlk hI) (o_N_runs_254 h0 F hr hlk hI)
theorem o_N_runs_234 {X : ra_X} {p : Program} {l : Launch} {e : Env} {s : State} {m : MethodId} {args : Array Value} {below : List Frame} {meth : Method} {c : Code} {Z : ra_R} {c0 : ra_Sp}  (h0 : ra_MOK l X mi_N_doesLay c0) (F : ra_Fx X p rm_N_runs s m args c prog_13_method_27_code 6 cn_N) (hr : meth.sig.returnType = none) (hlk : meth.locks = false) {I : Nat → ra_K} (hI : ∀ t ∈ [2, 63, 70, 139, 185, 324], ra_At X p l e rm_N_runs s m args below meth c 6 (MQ below (ra_Qc X Z) args s 0 0 (ra_A X)) (I t) t) : ra_At X p l e rm_N_runs s m args below meth c 6 (MQ below (ra_Qc X Z) args s 0 0 (ra_A X)) (b_N_runs_234 c0 I Z) 234 :=
  r_aload_n F d_N_runs_234 rfl <| r_getR F cg_N (j := 18) (by decide) rfl fl_N_58 d_N_runs_235 <| r_iload F d_N_runs_238 <| r_iaload F d_N_runs_240 <| r_if_ne F d_N_runs_241 (by decide) (o_N_runs_268 h0 F hr hlk hI) (o_N_runs_244 h0 F hr hlk hI)
theorem o_N_runs_193 {X : ra_X} {p : Program} {l : Launch} {e : Env} {s : State} {m : MethodId} {args : Array Value} {below : List Frame} {meth : Method} {c : Code} {Z : ra_R} {c0 : ra_Sp}  (h0 : ra_MOK l X mi_N_doesLay c0) (F : ra_Fx X p rm_N_runs s m args c prog_13_method_27_code 6 cn_N) (hr : meth.sig.returnType = none) (hlk : meth.locks = false) {I : Nat → ra_K} (hI : ∀ t ∈ [2, 63, 70, 139, 185, 324], ra_At X p l e rm_N_runs s m args below meth c 6 (MQ below (ra_Qc X Z) args s 0 0 (ra_A X)) (I t) t) : ra_At X p l e rm_N_runs s m args below meth c 6 (MQ below (ra_Qc X Z) args s 0 0 (ra_A X)) (b_N_runs_193 c0 I Z) 193 :=
  r_aload_n F d_N_runs_193 rfl <| r_getR F cg_N (j := 6) (by decide) rfl fl_N_25 d_N_runs_194 <| r_iload_n F d_N_runs_197 rfl <| r_iaload F d_N_runs_198 <| r_istore F d_N_runs_199 (by decide) <| r_aload_n F d_N_runs_201 rfl <| r_getR F cg_N (j := 13) (by decide) rfl fl_N_43 d_N_runs_202 <| r_iload_n F d_N_runs_205 rfl <| r_dup2 F d_N_runs_206 <| r_iaload F d_N_runs_207 <| r_aload_n F d_N_runs_208 rfl <| r_getR F cg_N (j := 18) (by decide) rfl fl_N_58 d_N_runs_209 <| r_iload F d_N_runs_212 <| r_iaload F d_N_runs_214 <| r_aload_n F d_N_runs_215 rfl <| r_getR F cg_N (j := 9) (by decide) rfl fl_N_31 d_N_runs_216 <| r_iconst F d_N_runs_219 (by decide) <| r_iaload F d_N_runs_220 <| r_imul F d_N_runs_221 <| r_isub F d_N_runs_222 <| r_iastore F d_N_runs_223 <| r_aload_n F d_N_runs_224 rfl <| r_getR F cg_N (j := 9) (by decide) rfl fl_N_31 d_N_runs_225 <| r_iconst F d_N_runs_228 (by decide) <| r_iaload F d_N_runs_229 <| r_iconst F d_N_runs_230 (by decide) <| r_icmp_ne F d_N_runs_231 (by decide) (o_N_runs_268 h0 F hr hlk hI) (o_N_runs_234 h0 F hr hlk hI)
theorem o_N_runs_185 {X : ra_X} {p : Program} {l : Launch} {e : Env} {s : State} {m : MethodId} {args : Array Value} {below : List Frame} {meth : Method} {c : Code} {Z : ra_R} {c0 : ra_Sp}  (h0 : ra_MOK l X mi_N_doesLay c0) (F : ra_Fx X p rm_N_runs s m args c prog_13_method_27_code 6 cn_N) (hr : meth.sig.returnType = none) (hlk : meth.locks = false) {I : Nat → ra_K} (hI : ∀ t ∈ [2, 63, 70, 139, 185, 324], ra_At X p l e rm_N_runs s m args below meth c 6 (MQ below (ra_Qc X Z) args s 0 0 (ra_A X)) (I t) t) : ra_At X p l e rm_N_runs s m args below meth c 6 (MQ below (ra_Qc X Z) args s 0 0 (ra_A X)) (b_N_runs_185 c0 I Z) 185 :=
  r_iload_n F d_N_runs_185 rfl <| r_aload_n F d_N_runs_186 rfl <| r_getI F cg_N (j := 2) (by decide) rfl fl_N_109 d_N_runs_187 <| r_icmp_ge F d_N_runs_190 (by decide) (o_N_runs_322 h0 F hr hlk hI) (o_N_runs_193 h0 F hr hlk hI)
theorem o_N_runs_183 {X : ra_X} {p : Program} {l : Launch} {e : Env} {s : State} {m : MethodId} {args : Array Value} {below : List Frame} {meth : Method} {c : Code} {Z : ra_R} {c0 : ra_Sp}  (h0 : ra_MOK l X mi_N_doesLay c0) (F : ra_Fx X p rm_N_runs s m args c prog_13_method_27_code 6 cn_N) (hr : meth.sig.returnType = none) (hlk : meth.locks = false) {I : Nat → ra_K} (hI : ∀ t ∈ [2, 63, 70, 139, 185, 324], ra_At X p l e rm_N_runs s m args below meth c 6 (MQ below (ra_Qc X Z) args s 0 0 (ra_A X)) (I t) t) : ra_At X p l e rm_N_runs s m args below meth c 6 (MQ below (ra_Qc X Z) args s 0 0 (ra_A X)) (b_N_runs_183 c0 I Z) 183 :=
  r_iconst F d_N_runs_183 (by decide) <| r_istore_n F d_N_runs_184 rfl (by decide) <| (hI 185 (by decide))
theorem o_N_runs_176 {X : ra_X} {p : Program} {l : Launch} {e : Env} {s : State} {m : MethodId} {args : Array Value} {below : List Frame} {meth : Method} {c : Code} {Z : ra_R} {c0 : ra_Sp}  (h0 : ra_MOK l X mi_N_doesLay c0) (F : ra_Fx X p rm_N_runs s m args c prog_13_method_27_code 6 cn_N) (hr : meth.sig.returnType = none) (hlk : meth.locks = false) {I : Nat → ra_K} (hI : ∀ t ∈ [2, 63, 70, 139, 185, 324], ra_At X p l e rm_N_runs s m args below meth c 6 (MQ below (ra_Qc X Z) args s 0 0 (ra_A X)) (I t) t) : ra_At X p l e rm_N_runs s m args below meth c 6 (MQ below (ra_Qc X Z) args s 0 0 (ra_A X)) (b_N_runs_176 c0 I Z) 176 :=
  r_iastore F d_N_runs_176 <| r_iinc F d_N_runs_177 (by decide) (by decide) <| r_goto F d_N_runs_180 (by decide) (hI 139 (by decide))
theorem o_N_runs_175 {X : ra_X} {p : Program} {l : Launch} {e : Env} {s : State} {m : MethodId} {args : Array Value} {below : List Frame} {meth : Method} {c : Code} {Z : ra_R} {c0 : ra_Sp}  (h0 : ra_MOK l X mi_N_doesLay c0) (F : ra_Fx X p rm_N_runs s m args c prog_13_method_27_code 6 cn_N) (hr : meth.sig.returnType = none) (hlk : meth.locks = false) {I : Nat → ra_K} (hI : ∀ t ∈ [2, 63, 70, 139, 185, 324], ra_At X p l e rm_N_runs s m args below meth c 6 (MQ below (ra_Qc X Z) args s 0 0 (ra_A X)) (I t) t) : ra_At X p l e rm_N_runs s m args below meth c 6 (MQ below (ra_Qc X Z) args s 0 0 (ra_A X)) (b_N_runs_175 c0 I Z) 175 :=
  r_iconst F d_N_runs_175 (by decide) <| (o_N_runs_176 h0 F hr hlk hI)
theorem o_N_runs_171 {X : ra_X} {p : Program} {l : Launch} {e : Env} {s : State} {m : MethodId} {args : Array Value} {below : List Frame} {meth : Method} {c : Code} {Z : ra_R} {c0 : ra_Sp}  (h0 : ra_MOK l X mi_N_doesLay c0) (F : ra_Fx X p rm_N_runs s m args c prog_13_method_27_code 6 cn_N) (hr : meth.sig.returnType = none) (hlk : meth.locks = false) {I : Nat → ra_K} (hI : ∀ t ∈ [2, 63, 70, 139, 185, 324], ra_At X p l e rm_N_runs s m args below meth c 6 (MQ below (ra_Qc X Z) args s 0 0 (ra_A X)) (I t) t) : ra_At X p l e rm_N_runs s m args below meth c 6 (MQ below (ra_Qc X Z) args s 0 0 (ra_A X)) (b_N_runs_171 c0 I Z) 171 :=
  r_iconst F d_N_runs_171 (by decide) <| r_goto F d_N_runs_172 (by decide) (o_N_runs_176 h0 F hr hlk hI)
theorem o_N_runs_147 {X : ra_X} {p : Program} {l : Launch} {e : Env} {s : State} {m : MethodId} {args : Array Value} {below : List Frame} {meth : Method} {c : Code} {Z : ra_R} {c0 : ra_Sp}  (h0 : ra_MOK l X mi_N_doesLay c0) (F : ra_Fx X p rm_N_runs s m args c prog_13_method_27_code 6 cn_N) (hr : meth.sig.returnType = none) (hlk : meth.locks = false) {I : Nat → ra_K} (hI : ∀ t ∈ [2, 63, 70, 139, 185, 324], ra_At X p l e rm_N_runs s m args below meth c 6 (MQ below (ra_Qc X Z) args s 0 0 (ra_A X)) (I t) t) : ra_At X p l e rm_N_runs s m args below meth c 6 (MQ below (ra_Qc X Z) args s 0 0 (ra_A X)) (b_N_runs_147 c0 I Z) 147 :=
  r_aload_n F d_N_runs_147 rfl <| r_getR F cg_N (j := 18) (by decide) rfl fl_N_58 d_N_runs_148 <| r_aload_n F d_N_runs_151 rfl <| r_getR F cg_N (j := 6) (by decide) rfl fl_N_25 d_N_runs_152 <| r_iload_n F d_N_runs_155 rfl <| r_iaload F d_N_runs_156 <| r_aload_n F d_N_runs_157 rfl <| r_iload_n F d_N_runs_158 rfl <| r_aload_n F d_N_runs_159 rfl <| r_getR F cg_N (j := 6) (by decide) rfl fl_N_25 d_N_runs_160 <| r_iload_n F d_N_runs_163 rfl <| r_iaload F d_N_runs_164 <| r_callV F h0 (co_N_doesLay (by decide +kernel) (by decide +kernel)) ⟨rfl, by decide +kernel⟩ ⟨rfl, by decide⟩ ml_N_159 im_N_doesLay se_N_doesLay d_N_runs_165 <| r_if_eq F d_N_runs_168 (by decide) (o_N_runs_175 h0 F hr hlk hI) (o_N_runs_171 h0 F hr hlk hI)
theorem o_N_runs_139 {X : ra_X} {p : Program} {l : Launch} {e : Env} {s : State} {m : MethodId} {args : Array Value} {below : List Frame} {meth : Method} {c : Code} {Z : ra_R} {c0 : ra_Sp}  (h0 : ra_MOK l X mi_N_doesLay c0) (F : ra_Fx X p rm_N_runs s m args c prog_13_method_27_code 6 cn_N) (hr : meth.sig.returnType = none) (hlk : meth.locks = false) {I : Nat → ra_K} (hI : ∀ t ∈ [2, 63, 70, 139, 185, 324], ra_At X p l e rm_N_runs s m args below meth c 6 (MQ below (ra_Qc X Z) args s 0 0 (ra_A X)) (I t) t) : ra_At X p l e rm_N_runs s m args below meth c 6 (MQ below (ra_Qc X Z) args s 0 0 (ra_A X)) (b_N_runs_139 c0 I Z) 139 :=
  r_iload_n F d_N_runs_139 rfl <| r_aload_n F d_N_runs_140 rfl <| r_getI F cg_N (j := 2) (by decide) rfl fl_N_109 d_N_runs_141 <| r_icmp_ge F d_N_runs_144 (by decide) (o_N_runs_183 h0 F hr hlk hI) (o_N_runs_147 h0 F hr hlk hI)
theorem o_N_runs_137 {X : ra_X} {p : Program} {l : Launch} {e : Env} {s : State} {m : MethodId} {args : Array Value} {below : List Frame} {meth : Method} {c : Code} {Z : ra_R} {c0 : ra_Sp}  (h0 : ra_MOK l X mi_N_doesLay c0) (F : ra_Fx X p rm_N_runs s m args c prog_13_method_27_code 6 cn_N) (hr : meth.sig.returnType = none) (hlk : meth.locks = false) {I : Nat → ra_K} (hI : ∀ t ∈ [2, 63, 70, 139, 185, 324], ra_At X p l e rm_N_runs s m args below meth c 6 (MQ below (ra_Qc X Z) args s 0 0 (ra_A X)) (I t) t) : ra_At X p l e rm_N_runs s m args below meth c 6 (MQ below (ra_Qc X Z) args s 0 0 (ra_A X)) (b_N_runs_137 c0 I Z) 137 :=
  r_iconst F d_N_runs_137 (by decide) <| r_istore_n F d_N_runs_138 rfl (by decide) <| (hI 139 (by decide))
theorem o_N_runs_115 {X : ra_X} {p : Program} {l : Launch} {e : Env} {s : State} {m : MethodId} {args : Array Value} {below : List Frame} {meth : Method} {c : Code} {Z : ra_R} {c0 : ra_Sp}  (h0 : ra_MOK l X mi_N_doesLay c0) (F : ra_Fx X p rm_N_runs s m args c prog_13_method_27_code 6 cn_N) (hr : meth.sig.returnType = none) (hlk : meth.locks = false) {I : Nat → ra_K} (hI : ∀ t ∈ [2, 63, 70, 139, 185, 324], ra_At X p l e rm_N_runs s m args below meth c 6 (MQ below (ra_Qc X Z) args s 0 0 (ra_A X)) (I t) t) : ra_At X p l e rm_N_runs s m args below meth c 6 (MQ below (ra_Qc X Z) args s 0 0 (ra_A X)) (b_N_runs_115 c0 I Z) 115 :=
  r_iastore F d_N_runs_115 <| r_aload_n F d_N_runs_116 rfl <| r_getR F cg_N (j := 14) (by decide) rfl fl_N_46 d_N_runs_117 <| r_iload_n F d_N_runs_120 rfl <| r_dup2 F d_N_runs_121 <| r_iaload F d_N_runs_122 <| r_aload_n F d_N_runs_123 rfl <| r_getR F cg_N (j := 16) (by decide) rfl fl_N_52 d_N_runs_124 <| r_iload_n F d_N_runs_127 rfl <| r_iaload F d_N_runs_128 <| r_iadd F d_N_runs_129 <| r_iastore F d_N_runs_130 <| r_iinc F d_N_runs_131 (by decide) (by decide) <| r_goto F d_N_runs_134 (by decide) (hI 70 (by decide))
theorem o_N_runs_114 {X : ra_X} {p : Program} {l : Launch} {e : Env} {s : State} {m : MethodId} {args : Array Value} {below : List Frame} {meth : Method} {c : Code} {Z : ra_R} {c0 : ra_Sp}  (h0 : ra_MOK l X mi_N_doesLay c0) (F : ra_Fx X p rm_N_runs s m args c prog_13_method_27_code 6 cn_N) (hr : meth.sig.returnType = none) (hlk : meth.locks = false) {I : Nat → ra_K} (hI : ∀ t ∈ [2, 63, 70, 139, 185, 324], ra_At X p l e rm_N_runs s m args below meth c 6 (MQ below (ra_Qc X Z) args s 0 0 (ra_A X)) (I t) t) : ra_At X p l e rm_N_runs s m args below meth c 6 (MQ below (ra_Qc X Z) args s 0 0 (ra_A X)) (b_N_runs_114 c0 I Z) 114 :=
  r_iconst F d_N_runs_114 (by decide) <| (o_N_runs_115 h0 F hr hlk hI)
theorem o_N_runs_98 {X : ra_X} {p : Program} {l : Launch} {e : Env} {s : State} {m : MethodId} {args : Array Value} {below : List Frame} {meth : Method} {c : Code} {Z : ra_R} {c0 : ra_Sp}  (h0 : ra_MOK l X mi_N_doesLay c0) (F : ra_Fx X p rm_N_runs s m args c prog_13_method_27_code 6 cn_N) (hr : meth.sig.returnType = none) (hlk : meth.locks = false) {I : Nat → ra_K} (hI : ∀ t ∈ [2, 63, 70, 139, 185, 324], ra_At X p l e rm_N_runs s m args below meth c 6 (MQ below (ra_Qc X Z) args s 0 0 (ra_A X)) (I t) t) : ra_At X p l e rm_N_runs s m args below meth c 6 (MQ below (ra_Qc X Z) args s 0 0 (ra_A X)) (b_N_runs_98 c0 I Z) 98 :=
  r_aload_n F d_N_runs_98 rfl <| r_getR F cg_N (j := 8) (by decide) rfl fl_N_28 d_N_runs_99 <| r_iload_n F d_N_runs_102 rfl <| r_iaload F d_N_runs_103 <| r_aload_n F d_N_runs_104 rfl <| r_getR F cg_N (j := 12) (by decide) rfl fl_N_40 d_N_runs_105 <| r_iload_n F d_N_runs_108 rfl <| r_iaload F d_N_runs_109 <| r_isub F d_N_runs_110 <| r_goto F d_N_runs_111 (by decide) (o_N_runs_115 h0 F hr hlk hI)
theorem o_N_runs_78 {X : ra_X} {p : Program} {l : Launch} {e : Env} {s : State} {m : MethodId} {args : Array Value} {below : List Frame} {meth : Method} {c : Code} {Z : ra_R} {c0 : ra_Sp}  (h0 : ra_MOK l X mi_N_doesLay c0) (F : ra_Fx X p rm_N_runs s m args c prog_13_method_27_code 6 cn_N) (hr : meth.sig.returnType = none) (hlk : meth.locks = false) {I : Nat → ra_K} (hI : ∀ t ∈ [2, 63, 70, 139, 185, 324], ra_At X p l e rm_N_runs s m args below meth c 6 (MQ below (ra_Qc X Z) args s 0 0 (ra_A X)) (I t) t) : ra_At X p l e rm_N_runs s m args below meth c 6 (MQ below (ra_Qc X Z) args s 0 0 (ra_A X)) (b_N_runs_78 c0 I Z) 78 :=
  r_aload_n F d_N_runs_78 rfl <| r_getR F cg_N (j := 16) (by decide) rfl fl_N_52 d_N_runs_79 <| r_iload_n F d_N_runs_82 rfl <| r_aload_n F d_N_runs_83 rfl <| r_getR F cg_N (j := 8) (by decide) rfl fl_N_28 d_N_runs_84 <| r_iload_n F d_N_runs_87 rfl <| r_iaload F d_N_runs_88 <| r_aload_n F d_N_runs_89 rfl <| r_getR F cg_N (j := 12) (by decide) rfl fl_N_40 d_N_runs_90 <| r_iload_n F d_N_runs_93 rfl <| r_iaload F d_N_runs_94 <| r_icmp_le F d_N_runs_95 (by decide) (o_N_runs_114 h0 F hr hlk hI) (o_N_runs_98 h0 F hr hlk hI)
theorem o_N_runs_70 {X : ra_X} {p : Program} {l : Launch} {e : Env} {s : State} {m : MethodId} {args : Array Value} {below : List Frame} {meth : Method} {c : Code} {Z : ra_R} {c0 : ra_Sp}  (h0 : ra_MOK l X mi_N_doesLay c0) (F : ra_Fx X p rm_N_runs s m args c prog_13_method_27_code 6 cn_N) (hr : meth.sig.returnType = none) (hlk : meth.locks = false) {I : Nat → ra_K} (hI : ∀ t ∈ [2, 63, 70, 139, 185, 324], ra_At X p l e rm_N_runs s m args below meth c 6 (MQ below (ra_Qc X Z) args s 0 0 (ra_A X)) (I t) t) : ra_At X p l e rm_N_runs s m args below meth c 6 (MQ below (ra_Qc X Z) args s 0 0 (ra_A X)) (b_N_runs_70 c0 I Z) 70 :=
  r_iload_n F d_N_runs_70 rfl <| r_aload_n F d_N_runs_71 rfl <| r_getI F cg_N (j := 2) (by decide) rfl fl_N_109 d_N_runs_72 <| r_icmp_ge F d_N_runs_75 (by decide) (o_N_runs_137 h0 F hr hlk hI) (o_N_runs_78 h0 F hr hlk hI)
theorem o_N_runs_68 {X : ra_X} {p : Program} {l : Launch} {e : Env} {s : State} {m : MethodId} {args : Array Value} {below : List Frame} {meth : Method} {c : Code} {Z : ra_R} {c0 : ra_Sp}  (h0 : ra_MOK l X mi_N_doesLay c0) (F : ra_Fx X p rm_N_runs s m args c prog_13_method_27_code 6 cn_N) (hr : meth.sig.returnType = none) (hlk : meth.locks = false) {I : Nat → ra_K} (hI : ∀ t ∈ [2, 63, 70, 139, 185, 324], ra_At X p l e rm_N_runs s m args below meth c 6 (MQ below (ra_Qc X Z) args s 0 0 (ra_A X)) (I t) t) : ra_At X p l e rm_N_runs s m args below meth c 6 (MQ below (ra_Qc X Z) args s 0 0 (ra_A X)) (b_N_runs_68 c0 I Z) 68 :=
  r_iconst F d_N_runs_68 (by decide) <| r_istore_n F d_N_runs_69 rfl (by decide) <| (hI 70 (by decide))
theorem o_N_runs_63 {X : ra_X} {p : Program} {l : Launch} {e : Env} {s : State} {m : MethodId} {args : Array Value} {below : List Frame} {meth : Method} {c : Code} {Z : ra_R} {c0 : ra_Sp}  (h0 : ra_MOK l X mi_N_doesLay c0) (F : ra_Fx X p rm_N_runs s m args c prog_13_method_27_code 6 cn_N) (hr : meth.sig.returnType = none) (hlk : meth.locks = false) {I : Nat → ra_K} (hI : ∀ t ∈ [2, 63, 70, 139, 185, 324], ra_At X p l e rm_N_runs s m args below meth c 6 (MQ below (ra_Qc X Z) args s 0 0 (ra_A X)) (I t) t) : ra_At X p l e rm_N_runs s m args below meth c 6 (MQ below (ra_Qc X Z) args s 0 0 (ra_A X)) (b_N_runs_63 c0 I Z) 63 :=
  r_iload_n F d_N_runs_63 rfl <| r_iload_n F d_N_runs_64 rfl <| r_icmp_ge F d_N_runs_65 (by decide) (o_N_runs_356 h0 F hr hlk hI) (o_N_runs_68 h0 F hr hlk hI)
theorem o_N_runs_61 {X : ra_X} {p : Program} {l : Launch} {e : Env} {s : State} {m : MethodId} {args : Array Value} {below : List Frame} {meth : Method} {c : Code} {Z : ra_R} {c0 : ra_Sp}  (h0 : ra_MOK l X mi_N_doesLay c0) (F : ra_Fx X p rm_N_runs s m args c prog_13_method_27_code 6 cn_N) (hr : meth.sig.returnType = none) (hlk : meth.locks = false) {I : Nat → ra_K} (hI : ∀ t ∈ [2, 63, 70, 139, 185, 324], ra_At X p l e rm_N_runs s m args below meth c 6 (MQ below (ra_Qc X Z) args s 0 0 (ra_A X)) (I t) t) : ra_At X p l e rm_N_runs s m args below meth c 6 (MQ below (ra_Qc X Z) args s 0 0 (ra_A X)) (b_N_runs_61 c0 I Z) 61 :=
  r_iconst F d_N_runs_61 (by decide) <| r_istore_n F d_N_runs_62 rfl (by decide) <| (hI 63 (by decide))
theorem o_N_runs_10 {X : ra_X} {p : Program} {l : Launch} {e : Env} {s : State} {m : MethodId} {args : Array Value} {below : List Frame} {meth : Method} {c : Code} {Z : ra_R} {c0 : ra_Sp}  (h0 : ra_MOK l X mi_N_doesLay c0) (F : ra_Fx X p rm_N_runs s m args c prog_13_method_27_code 6 cn_N) (hr : meth.sig.returnType = none) (hlk : meth.locks = false) {I : Nat → ra_K} (hI : ∀ t ∈ [2, 63, 70, 139, 185, 324], ra_At X p l e rm_N_runs s m args below meth c 6 (MQ below (ra_Qc X Z) args s 0 0 (ra_A X)) (I t) t) : ra_At X p l e rm_N_runs s m args below meth c 6 (MQ below (ra_Qc X Z) args s 0 0 (ra_A X)) (b_N_runs_10 c0 I Z) 10 :=
  r_aload_n F d_N_runs_10 rfl <| r_getR F cg_N (j := 12) (by decide) rfl fl_N_40 d_N_runs_11 <| r_iload_n F d_N_runs_14 rfl <| r_aload_n F d_N_runs_15 rfl <| r_getR F cg_N (j := 3) (by decide) rfl fl_N_16 d_N_runs_16 <| r_iload_n F d_N_runs_19 rfl <| r_iaload F d_N_runs_20 <| r_iastore F d_N_runs_21 <| r_aload_n F d_N_runs_22 rfl <| r_getR F cg_N (j := 13) (by decide) rfl fl_N_43 d_N_runs_23 <| r_iload_n F d_N_runs_26 rfl <| r_aload_n F d_N_runs_27 rfl <| r_getR F cg_N (j := 4) (by decide) rfl fl_N_19 d_N_runs_28 <| r_iload_n F d_N_runs_31 rfl <| r_iaload F d_N_runs_32 <| r_iastore F d_N_runs_33 <| r_aload_n F d_N_runs_34 rfl <| r_getR F cg_N (j := 14) (by decide) rfl fl_N_46 d_N_runs_35 <| r_iload_n F d_N_runs_38 rfl <| r_iconst F d_N_runs_39 (by decide) <| r_iastore F d_N_runs_40 <| r_aload_n F d_N_runs_41 rfl <| r_getR F cg_N (j := 15) (by decide) rfl fl_N_49 d_N_runs_42 <| r_iload_n F d_N_runs_45 rfl <| r_iconst F d_N_runs_46 (by decide) <| r_iastore F d_N_runs_47 <| r_aload_n F d_N_runs_48 rfl <| r_getR F cg_N (j := 17) (by decide) rfl fl_N_55 d_N_runs_49 <| r_iload_n F d_N_runs_52 rfl <| r_iconst F d_N_runs_53 (by decide) <| r_iastore F d_N_runs_54 <| r_iinc F d_N_runs_55 (by decide) (by decide) <| r_goto F d_N_runs_58 (by decide) (hI 2 (by decide))
theorem o_N_runs_2 {X : ra_X} {p : Program} {l : Launch} {e : Env} {s : State} {m : MethodId} {args : Array Value} {below : List Frame} {meth : Method} {c : Code} {Z : ra_R} {c0 : ra_Sp}  (h0 : ra_MOK l X mi_N_doesLay c0) (F : ra_Fx X p rm_N_runs s m args c prog_13_method_27_code 6 cn_N) (hr : meth.sig.returnType = none) (hlk : meth.locks = false) {I : Nat → ra_K} (hI : ∀ t ∈ [2, 63, 70, 139, 185, 324], ra_At X p l e rm_N_runs s m args below meth c 6 (MQ below (ra_Qc X Z) args s 0 0 (ra_A X)) (I t) t) : ra_At X p l e rm_N_runs s m args below meth c 6 (MQ below (ra_Qc X Z) args s 0 0 (ra_A X)) (b_N_runs_2 c0 I Z) 2 :=
  r_iload_n F d_N_runs_2 rfl <| r_aload_n F d_N_runs_3 rfl <| r_getI F cg_N (j := 2) (by decide) rfl fl_N_109 d_N_runs_4 <| r_icmp_ge F d_N_runs_7 (by decide) (o_N_runs_61 h0 F hr hlk hI) (o_N_runs_10 h0 F hr hlk hI)
theorem o_N_runs_0 {X : ra_X} {p : Program} {l : Launch} {e : Env} {s : State} {m : MethodId} {args : Array Value} {below : List Frame} {meth : Method} {c : Code} {Z : ra_R} {c0 : ra_Sp}  (h0 : ra_MOK l X mi_N_doesLay c0) (F : ra_Fx X p rm_N_runs s m args c prog_13_method_27_code 6 cn_N) (hr : meth.sig.returnType = none) (hlk : meth.locks = false) {I : Nat → ra_K} (hI : ∀ t ∈ [2, 63, 70, 139, 185, 324], ra_At X p l e rm_N_runs s m args below meth c 6 (MQ below (ra_Qc X Z) args s 0 0 (ra_A X)) (I t) t) : ra_At X p l e rm_N_runs s m args below meth c 6 (MQ below (ra_Qc X Z) args s 0 0 (ra_A X)) (b_N_runs_0 c0 I Z) 0 :=
  r_iconst F d_N_runs_0 (by decide) <| r_istore_n F d_N_runs_1 rfl (by decide) <| (hI 2 (by decide))
theorem g_N_runs {l : Launch} {X : ra_X} {c0 : ra_Sp}  (h0 : ra_MOK l X mi_N_doesLay c0) (sp : ra_Sp) (I : ra_R → List Value → ra_St → Nat → ra_M → ra_K) (ve : ∀ as σ Z, ra_c1 as = true → as.length = 2 → sp as σ Z → b_N_runs_0 c0 (ra_I (I Z as σ)) Z (ra_pad 6 as) [] σ) (v2 : ∀ as σ Z, sp as σ Z → ∀ μ L S σ1, I Z as σ 2 μ L S σ1 → b_N_runs_2 c0 (ra_J (I Z as σ) μ) Z L S σ1) (v63 : ∀ as σ Z, sp as σ Z → ∀ μ L S σ1, I Z as σ 63 μ L S σ1 → b_N_runs_63 c0 (ra_J (I Z as σ) μ) Z L S σ1) (v70 : ∀ as σ Z, sp as σ Z → ∀ μ L S σ1, I Z as σ 70 μ L S σ1 → b_N_runs_70 c0 (ra_J (I Z as σ) μ) Z L S σ1) (v139 : ∀ as σ Z, sp as σ Z → ∀ μ L S σ1, I Z as σ 139 μ L S σ1 → b_N_runs_139 c0 (ra_J (I Z as σ) μ) Z L S σ1) (v185 : ∀ as σ Z, sp as σ Z → ∀ μ L S σ1, I Z as σ 185 μ L S σ1 → b_N_runs_185 c0 (ra_J (I Z as σ) μ) Z L S σ1) (v324 : ∀ as σ Z, sp as σ Z → ∀ μ L S σ1, I Z as σ 324 μ L S σ1 → b_N_runs_324 c0 (ra_J (I Z as σ) μ) Z L S σ1) : ra_MOK l X mi_N_runs sp := by
  refine ra_enter (k := fun Z as σ => b_N_runs_0 c0 (ra_I (I Z as σ)) Z) cn_N rfl (by decide +kernel) ⟨by decide +kernel, by decide +kernel⟩ (by decide +kernel) ?_ ve
  intro p e s m args below meth c Z as σ hsp F hr hlk
  refine o_N_runs_0 h0 F hr hlk (ra_cuts (b := fun t J => if t = 2 then b_N_runs_2 c0 J Z else if t = 63 then b_N_runs_63 c0 J Z else if t = 70 then b_N_runs_70 c0 J Z else if t = 139 then b_N_runs_139 c0 J Z else if t = 185 then b_N_runs_185 c0 J Z else if t = 324 then b_N_runs_324 c0 J Z else fun _ _ _ => False) ?_ ?_)
  · intro t ht J hJ
    simp only [List.mem_cons, List.not_mem_nil, or_false] at ht
    rcases ht with rfl | rfl | rfl | rfl | rfl | rfl
    · exact o_N_runs_2 h0 F hr hlk hJ
    · exact o_N_runs_63 h0 F hr hlk hJ
    · exact o_N_runs_70 h0 F hr hlk hJ
    · exact o_N_runs_139 h0 F hr hlk hJ
    · exact o_N_runs_185 h0 F hr hlk hJ
    · exact o_N_runs_324 h0 F hr hlk hJ
  · intro t ht μ L S σ1 hI
    simp only [List.mem_cons, List.not_mem_nil, or_false] at ht
    rcases ht with rfl | rfl | rfl | rfl | rfl | rfl
    · exact v2 as σ Z hsp μ L S σ1 hI
    · exact v63 as σ Z hsp μ L S σ1 hI
    · exact v70 as σ Z hsp μ L S σ1 hI
    · exact v139 as σ Z hsp μ L S σ1 hI
    · exact v185 as σ Z hsp μ L S σ1 hI
    · exact v324 as σ Z hsp μ L S σ1 hI

theorem d_N_lays_0 : decode prog_13_method_28_code 0 = .ok (.aload_n 0, 1) := by decide +kernel
theorem d_N_lays_1 : decode prog_13_method_28_code 1 = .ok (.invokevirtual 134, 3) := by decide +kernel
theorem d_N_lays_4 : decode prog_13_method_28_code 4 = .ok (.iconst 0, 1) := by decide +kernel
theorem d_N_lays_5 : decode prog_13_method_28_code 5 = .ok (.istore_n 2, 1) := by decide +kernel
theorem d_N_lays_6 : decode prog_13_method_28_code 6 = .ok (.iload_n 2, 1) := by decide +kernel
theorem d_N_lays_7 : decode prog_13_method_28_code 7 = .ok (.aload_n 0, 1) := by decide +kernel
theorem d_N_lays_8 : decode prog_13_method_28_code 8 = .ok (.getfield 109, 3) := by decide +kernel
theorem d_N_lays_11 : decode prog_13_method_28_code 11 = .ok (.if_icmp .ge 21, 3) := by decide +kernel
theorem d_N_lays_14 : decode prog_13_method_28_code 14 = .ok (.aload_n 0, 1) := by decide +kernel
theorem d_N_lays_15 : decode prog_13_method_28_code 15 = .ok (.getfield 37, 3) := by decide +kernel
theorem d_N_lays_18 : decode prog_13_method_28_code 18 = .ok (.iload_n 2, 1) := by decide +kernel
theorem d_N_lays_19 : decode prog_13_method_28_code 19 = .ok (.aload_n 0, 1) := by decide +kernel
theorem d_N_lays_20 : decode prog_13_method_28_code 20 = .ok (.getfield 22, 3) := by decide +kernel
theorem d_N_lays_23 : decode prog_13_method_28_code 23 = .ok (.iload_n 2, 1) := by decide +kernel
theorem d_N_lays_24 : decode prog_13_method_28_code 24 = .ok (.iaload, 1) := by decide +kernel
theorem d_N_lays_25 : decode prog_13_method_28_code 25 = .ok (.iastore, 1) := by decide +kernel
theorem d_N_lays_26 : decode prog_13_method_28_code 26 = .ok (.iinc 2 1, 3) := by decide +kernel
theorem d_N_lays_29 : decode prog_13_method_28_code 29 = .ok (.goto (-23), 3) := by decide +kernel
theorem d_N_lays_32 : decode prog_13_method_28_code 32 = .ok (.aload_n 0, 1) := by decide +kernel
theorem d_N_lays_33 : decode prog_13_method_28_code 33 = .ok (.iload_n 1, 1) := by decide +kernel
theorem d_N_lays_34 : decode prog_13_method_28_code 34 = .ok (.invokevirtual 162, 3) := by decide +kernel
theorem d_N_lays_37 : decode prog_13_method_28_code 37 = .ok (.return_, 1) := by decide +kernel
def b_N_lays_32 (c0 c1 : ra_Sp) (I : Nat → ra_K) (Z : ra_R) : ra_K := w_al 0 <| w_il 1 <| w_cv c1 2 11 <| w_vr Z
def b_N_lays_14 (c0 c1 : ra_Sp) (I : Nat → ra_K) (Z : ra_R) : ra_K := w_al 0 <| w_gr 11 11 <| w_il 2 <| w_al 0 <| w_gr 11 5 <| w_il 2 <| w_ald <| w_ast <| w_inc 2 1 <| (I 6)
def b_N_lays_6 (c0 c1 : ra_Sp) (I : Nat → ra_K) (Z : ra_R) : ra_K := w_il 2 <| w_al 0 <| w_gi 11 2 <| w_b2 (fun x y => y ≤ x) (b_N_lays_32 c0 c1 I Z) (b_N_lays_14 c0 c1 I Z)
def b_N_lays_0 (c0 c1 : ra_Sp) (I : Nat → ra_K) (Z : ra_R) : ra_K := w_al 0 <| w_cv c0 1 11 <| w_c 0 <| w_is 2 <| (I 6)
theorem o_N_lays_32 {X : ra_X} {p : Program} {l : Launch} {e : Env} {s : State} {m : MethodId} {args : Array Value} {below : List Frame} {meth : Method} {c : Code} {Z : ra_R} {c0 c1 : ra_Sp}  (h0 : ra_MOK l X mi_N_reads c0) (h1 : ra_MOK l X mi_N_runs c1) (F : ra_Fx X p rm_N_lays s m args c prog_13_method_28_code 3 cn_N) (hr : meth.sig.returnType = none) (hlk : meth.locks = false) {I : Nat → ra_K} (hI : ∀ t ∈ [6], ra_At X p l e rm_N_lays s m args below meth c 3 (MQ below (ra_Qc X Z) args s 0 0 (ra_A X)) (I t) t) : ra_At X p l e rm_N_lays s m args below meth c 3 (MQ below (ra_Qc X Z) args s 0 0 (ra_A X)) (b_N_lays_32 c0 c1 I Z) 32 :=
  r_aload_n F d_N_lays_32 rfl <| r_iload_n F d_N_lays_33 rfl <| r_callV F h1 (co_N_runs (by decide +kernel) (by decide +kernel)) ⟨rfl, by decide +kernel⟩ ⟨rfl, by decide⟩ ml_N_162 im_N_runs se_N_runs d_N_lays_34 <| r_return F hr hlk d_N_lays_37
theorem o_N_lays_14 {X : ra_X} {p : Program} {l : Launch} {e : Env} {s : State} {m : MethodId} {args : Array Value} {below : List Frame} {meth : Method} {c : Code} {Z : ra_R} {c0 c1 : ra_Sp}  (h0 : ra_MOK l X mi_N_reads c0) (h1 : ra_MOK l X mi_N_runs c1) (F : ra_Fx X p rm_N_lays s m args c prog_13_method_28_code 3 cn_N) (hr : meth.sig.returnType = none) (hlk : meth.locks = false) {I : Nat → ra_K} (hI : ∀ t ∈ [6], ra_At X p l e rm_N_lays s m args below meth c 3 (MQ below (ra_Qc X Z) args s 0 0 (ra_A X)) (I t) t) : ra_At X p l e rm_N_lays s m args below meth c 3 (MQ below (ra_Qc X Z) args s 0 0 (ra_A X)) (b_N_lays_14 c0 c1 I Z) 14 :=
  r_aload_n F d_N_lays_14 rfl <| r_getR F cg_N (j := 11) (by decide) rfl fl_N_37 d_N_lays_15 <| r_iload_n F d_N_lays_18 rfl <| r_aload_n F d_N_lays_19 rfl <| r_getR F cg_N (j := 5) (by decide) rfl fl_N_22 d_N_lays_20 <| r_iload_n F d_N_lays_23 rfl <| r_iaload F d_N_lays_24 <| r_iastore F d_N_lays_25 <| r_iinc F d_N_lays_26 (by decide) (by decide) <| r_goto F d_N_lays_29 (by decide) (hI 6 (by decide))
theorem o_N_lays_6 {X : ra_X} {p : Program} {l : Launch} {e : Env} {s : State} {m : MethodId} {args : Array Value} {below : List Frame} {meth : Method} {c : Code} {Z : ra_R} {c0 c1 : ra_Sp}  (h0 : ra_MOK l X mi_N_reads c0) (h1 : ra_MOK l X mi_N_runs c1) (F : ra_Fx X p rm_N_lays s m args c prog_13_method_28_code 3 cn_N) (hr : meth.sig.returnType = none) (hlk : meth.locks = false) {I : Nat → ra_K} (hI : ∀ t ∈ [6], ra_At X p l e rm_N_lays s m args below meth c 3 (MQ below (ra_Qc X Z) args s 0 0 (ra_A X)) (I t) t) : ra_At X p l e rm_N_lays s m args below meth c 3 (MQ below (ra_Qc X Z) args s 0 0 (ra_A X)) (b_N_lays_6 c0 c1 I Z) 6 :=
  r_iload_n F d_N_lays_6 rfl <| r_aload_n F d_N_lays_7 rfl <| r_getI F cg_N (j := 2) (by decide) rfl fl_N_109 d_N_lays_8 <| r_icmp_ge F d_N_lays_11 (by decide) (o_N_lays_32 h0 h1 F hr hlk hI) (o_N_lays_14 h0 h1 F hr hlk hI)
theorem o_N_lays_0 {X : ra_X} {p : Program} {l : Launch} {e : Env} {s : State} {m : MethodId} {args : Array Value} {below : List Frame} {meth : Method} {c : Code} {Z : ra_R} {c0 c1 : ra_Sp}  (h0 : ra_MOK l X mi_N_reads c0) (h1 : ra_MOK l X mi_N_runs c1) (F : ra_Fx X p rm_N_lays s m args c prog_13_method_28_code 3 cn_N) (hr : meth.sig.returnType = none) (hlk : meth.locks = false) {I : Nat → ra_K} (hI : ∀ t ∈ [6], ra_At X p l e rm_N_lays s m args below meth c 3 (MQ below (ra_Qc X Z) args s 0 0 (ra_A X)) (I t) t) : ra_At X p l e rm_N_lays s m args below meth c 3 (MQ below (ra_Qc X Z) args s 0 0 (ra_A X)) (b_N_lays_0 c0 c1 I Z) 0 :=
  r_aload_n F d_N_lays_0 rfl <| r_callV F h0 (co_N_reads (by decide +kernel) (by decide +kernel)) ⟨rfl, by decide +kernel⟩ ⟨rfl, by decide⟩ ml_N_134 im_N_reads se_N_reads d_N_lays_1 <| r_iconst F d_N_lays_4 (by decide) <| r_istore_n F d_N_lays_5 rfl (by decide) <| (hI 6 (by decide))
theorem g_N_lays {l : Launch} {X : ra_X} {c0 c1 : ra_Sp}  (h0 : ra_MOK l X mi_N_reads c0) (h1 : ra_MOK l X mi_N_runs c1) (sp : ra_Sp) (I : ra_R → List Value → ra_St → Nat → ra_M → ra_K) (ve : ∀ as σ Z, ra_c1 as = true → as.length = 2 → sp as σ Z → b_N_lays_0 c0 c1 (ra_I (I Z as σ)) Z (ra_pad 3 as) [] σ) (v6 : ∀ as σ Z, sp as σ Z → ∀ μ L S σ1, I Z as σ 6 μ L S σ1 → b_N_lays_6 c0 c1 (ra_J (I Z as σ) μ) Z L S σ1) : ra_MOK l X mi_N_lays sp := by
  refine ra_enter (k := fun Z as σ => b_N_lays_0 c0 c1 (ra_I (I Z as σ)) Z) cn_N rfl (by decide +kernel) ⟨by decide +kernel, by decide +kernel⟩ (by decide +kernel) ?_ ve
  intro p e s m args below meth c Z as σ hsp F hr hlk
  refine o_N_lays_0 h0 h1 F hr hlk (ra_cuts (b := fun t J => if t = 6 then b_N_lays_6 c0 c1 J Z else fun _ _ _ => False) ?_ ?_)
  · intro t ht J hJ
    simp only [List.mem_cons, List.not_mem_nil, or_false] at ht
    rcases ht with rfl
    · exact o_N_lays_6 h0 h1 F hr hlk hJ
  · intro t ht μ L S σ1 hI
    simp only [List.mem_cons, List.not_mem_nil, or_false] at ht
    rcases ht with rfl
    · exact v6 as σ Z hsp μ L S σ1 hI

theorem d_N_behind_0 : decode prog_13_method_29_code 0 = .ok (.aload_n 0, 1) := by decide +kernel
theorem d_N_behind_1 : decode prog_13_method_29_code 1 = .ok (.iload_n 2, 1) := by decide +kernel
theorem d_N_behind_2 : decode prog_13_method_29_code 2 = .ok (.invokevirtual 166, 3) := by decide +kernel
theorem d_N_behind_5 : decode prog_13_method_29_code 5 = .ok (.iload_n 3, 1) := by decide +kernel
theorem d_N_behind_6 : decode prog_13_method_29_code 6 = .ok (.ifCond .ne 12, 3) := by decide +kernel
theorem d_N_behind_9 : decode prog_13_method_29_code 9 = .ok (.aload_n 0, 1) := by decide +kernel
theorem d_N_behind_10 : decode prog_13_method_29_code 10 = .ok (.getfield 40, 3) := by decide +kernel
theorem d_N_behind_13 : decode prog_13_method_29_code 13 = .ok (.iload_n 1, 1) := by decide +kernel
theorem d_N_behind_14 : decode prog_13_method_29_code 14 = .ok (.iaload, 1) := by decide +kernel
theorem d_N_behind_15 : decode prog_13_method_29_code 15 = .ok (.goto 37, 3) := by decide +kernel
theorem d_N_behind_18 : decode prog_13_method_29_code 18 = .ok (.iload_n 3, 1) := by decide +kernel
theorem d_N_behind_19 : decode prog_13_method_29_code 19 = .ok (.iconst 1, 1) := by decide +kernel
theorem d_N_behind_20 : decode prog_13_method_29_code 20 = .ok (.if_icmp .ne 12, 3) := by decide +kernel
theorem d_N_behind_23 : decode prog_13_method_29_code 23 = .ok (.aload_n 0, 1) := by decide +kernel
theorem d_N_behind_24 : decode prog_13_method_29_code 24 = .ok (.getfield 43, 3) := by decide +kernel
theorem d_N_behind_27 : decode prog_13_method_29_code 27 = .ok (.iload_n 1, 1) := by decide +kernel
theorem d_N_behind_28 : decode prog_13_method_29_code 28 = .ok (.iaload, 1) := by decide +kernel
theorem d_N_behind_29 : decode prog_13_method_29_code 29 = .ok (.goto 23, 3) := by decide +kernel
theorem d_N_behind_32 : decode prog_13_method_29_code 32 = .ok (.iload_n 3, 1) := by decide +kernel
theorem d_N_behind_33 : decode prog_13_method_29_code 33 = .ok (.iconst 2, 1) := by decide +kernel
theorem d_N_behind_34 : decode prog_13_method_29_code 34 = .ok (.if_icmp .ne 12, 3) := by decide +kernel
theorem d_N_behind_37 : decode prog_13_method_29_code 37 = .ok (.aload_n 0, 1) := by decide +kernel
theorem d_N_behind_38 : decode prog_13_method_29_code 38 = .ok (.getfield 46, 3) := by decide +kernel
theorem d_N_behind_41 : decode prog_13_method_29_code 41 = .ok (.iload_n 1, 1) := by decide +kernel
theorem d_N_behind_42 : decode prog_13_method_29_code 42 = .ok (.iaload, 1) := by decide +kernel
theorem d_N_behind_43 : decode prog_13_method_29_code 43 = .ok (.goto 9, 3) := by decide +kernel
theorem d_N_behind_46 : decode prog_13_method_29_code 46 = .ok (.aload_n 0, 1) := by decide +kernel
theorem d_N_behind_47 : decode prog_13_method_29_code 47 = .ok (.getfield 49, 3) := by decide +kernel
theorem d_N_behind_50 : decode prog_13_method_29_code 50 = .ok (.iload_n 1, 1) := by decide +kernel
theorem d_N_behind_51 : decode prog_13_method_29_code 51 = .ok (.iaload, 1) := by decide +kernel
theorem d_N_behind_52 : decode prog_13_method_29_code 52 = .ok (.ireturn, 1) := by decide +kernel
def b_N_behind_52 (c0 : ra_Sp) (Z : ra_R) : ra_K := w_ir Z
def b_N_behind_46 (c0 : ra_Sp) (Z : ra_R) : ra_K := w_al 0 <| w_gr 11 15 <| w_il 1 <| w_ald <| (b_N_behind_52 c0 Z)
def b_N_behind_37 (c0 : ra_Sp) (Z : ra_R) : ra_K := w_al 0 <| w_gr 11 14 <| w_il 1 <| w_ald <| (b_N_behind_52 c0 Z)
def b_N_behind_32 (c0 : ra_Sp) (Z : ra_R) : ra_K := w_il 3 <| w_c 2 <| w_b2 (fun x y => x = y) (b_N_behind_37 c0 Z) (b_N_behind_46 c0 Z)
def b_N_behind_23 (c0 : ra_Sp) (Z : ra_R) : ra_K := w_al 0 <| w_gr 11 13 <| w_il 1 <| w_ald <| (b_N_behind_52 c0 Z)
def b_N_behind_18 (c0 : ra_Sp) (Z : ra_R) : ra_K := w_il 3 <| w_c 1 <| w_b2 (fun x y => x = y) (b_N_behind_23 c0 Z) (b_N_behind_32 c0 Z)
def b_N_behind_9 (c0 : ra_Sp) (Z : ra_R) : ra_K := w_al 0 <| w_gr 11 12 <| w_il 1 <| w_ald <| (b_N_behind_52 c0 Z)
def b_N_behind_0 (c0 : ra_Sp) (Z : ra_R) : ra_K := w_al 0 <| w_il 2 <| w_cv c0 2 11 <| w_il 3 <| w_b1 (fun x => x = 0) (b_N_behind_9 c0 Z) (b_N_behind_18 c0 Z)
theorem o_N_behind_52 {X : ra_X} {p : Program} {l : Launch} {e : Env} {s : State} {m : MethodId} {args : Array Value} {below : List Frame} {meth : Method} {c : Code} {Z : ra_R} {c0 : ra_Sp}  (h0 : ra_MOK l X mi_N_lays c0) (F : ra_Fx X p rm_N_behind s m args c prog_13_method_29_code 4 cn_N) (hr : meth.sig.returnType = (some .int)) (hlk : meth.locks = false) : ra_At X p l e rm_N_behind s m args below meth c 4 (MQ below (ra_Qc X Z) args s 0 0 (ra_A X)) (b_N_behind_52 c0 Z) 52 :=
  r_ireturn F hr hlk d_N_behind_52
theorem o_N_behind_46 {X : ra_X} {p : Program} {l : Launch} {e : Env} {s : State} {m : MethodId} {args : Array Value} {below : List Frame} {meth : Method} {c : Code} {Z : ra_R} {c0 : ra_Sp}  (h0 : ra_MOK l X mi_N_lays c0) (F : ra_Fx X p rm_N_behind s m args c prog_13_method_29_code 4 cn_N) (hr : meth.sig.returnType = (some .int)) (hlk : meth.locks = false) : ra_At X p l e rm_N_behind s m args below meth c 4 (MQ below (ra_Qc X Z) args s 0 0 (ra_A X)) (b_N_behind_46 c0 Z) 46 :=
  r_aload_n F d_N_behind_46 rfl <| r_getR F cg_N (j := 15) (by decide) rfl fl_N_49 d_N_behind_47 <| r_iload_n F d_N_behind_50 rfl <| r_iaload F d_N_behind_51 <| (o_N_behind_52 h0 F hr hlk)
theorem o_N_behind_37 {X : ra_X} {p : Program} {l : Launch} {e : Env} {s : State} {m : MethodId} {args : Array Value} {below : List Frame} {meth : Method} {c : Code} {Z : ra_R} {c0 : ra_Sp}  (h0 : ra_MOK l X mi_N_lays c0) (F : ra_Fx X p rm_N_behind s m args c prog_13_method_29_code 4 cn_N) (hr : meth.sig.returnType = (some .int)) (hlk : meth.locks = false) : ra_At X p l e rm_N_behind s m args below meth c 4 (MQ below (ra_Qc X Z) args s 0 0 (ra_A X)) (b_N_behind_37 c0 Z) 37 :=
  r_aload_n F d_N_behind_37 rfl <| r_getR F cg_N (j := 14) (by decide) rfl fl_N_46 d_N_behind_38 <| r_iload_n F d_N_behind_41 rfl <| r_iaload F d_N_behind_42 <| r_goto F d_N_behind_43 (by decide) (o_N_behind_52 h0 F hr hlk)
theorem o_N_behind_32 {X : ra_X} {p : Program} {l : Launch} {e : Env} {s : State} {m : MethodId} {args : Array Value} {below : List Frame} {meth : Method} {c : Code} {Z : ra_R} {c0 : ra_Sp}  (h0 : ra_MOK l X mi_N_lays c0) (F : ra_Fx X p rm_N_behind s m args c prog_13_method_29_code 4 cn_N) (hr : meth.sig.returnType = (some .int)) (hlk : meth.locks = false) : ra_At X p l e rm_N_behind s m args below meth c 4 (MQ below (ra_Qc X Z) args s 0 0 (ra_A X)) (b_N_behind_32 c0 Z) 32 :=
  r_iload_n F d_N_behind_32 rfl <| r_iconst F d_N_behind_33 (by decide) <| r_icmp_ne F d_N_behind_34 (by decide) (o_N_behind_46 h0 F hr hlk) (o_N_behind_37 h0 F hr hlk)
theorem o_N_behind_23 {X : ra_X} {p : Program} {l : Launch} {e : Env} {s : State} {m : MethodId} {args : Array Value} {below : List Frame} {meth : Method} {c : Code} {Z : ra_R} {c0 : ra_Sp}  (h0 : ra_MOK l X mi_N_lays c0) (F : ra_Fx X p rm_N_behind s m args c prog_13_method_29_code 4 cn_N) (hr : meth.sig.returnType = (some .int)) (hlk : meth.locks = false) : ra_At X p l e rm_N_behind s m args below meth c 4 (MQ below (ra_Qc X Z) args s 0 0 (ra_A X)) (b_N_behind_23 c0 Z) 23 :=
  r_aload_n F d_N_behind_23 rfl <| r_getR F cg_N (j := 13) (by decide) rfl fl_N_43 d_N_behind_24 <| r_iload_n F d_N_behind_27 rfl <| r_iaload F d_N_behind_28 <| r_goto F d_N_behind_29 (by decide) (o_N_behind_52 h0 F hr hlk)
theorem o_N_behind_18 {X : ra_X} {p : Program} {l : Launch} {e : Env} {s : State} {m : MethodId} {args : Array Value} {below : List Frame} {meth : Method} {c : Code} {Z : ra_R} {c0 : ra_Sp}  (h0 : ra_MOK l X mi_N_lays c0) (F : ra_Fx X p rm_N_behind s m args c prog_13_method_29_code 4 cn_N) (hr : meth.sig.returnType = (some .int)) (hlk : meth.locks = false) : ra_At X p l e rm_N_behind s m args below meth c 4 (MQ below (ra_Qc X Z) args s 0 0 (ra_A X)) (b_N_behind_18 c0 Z) 18 :=
  r_iload_n F d_N_behind_18 rfl <| r_iconst F d_N_behind_19 (by decide) <| r_icmp_ne F d_N_behind_20 (by decide) (o_N_behind_32 h0 F hr hlk) (o_N_behind_23 h0 F hr hlk)
theorem o_N_behind_9 {X : ra_X} {p : Program} {l : Launch} {e : Env} {s : State} {m : MethodId} {args : Array Value} {below : List Frame} {meth : Method} {c : Code} {Z : ra_R} {c0 : ra_Sp}  (h0 : ra_MOK l X mi_N_lays c0) (F : ra_Fx X p rm_N_behind s m args c prog_13_method_29_code 4 cn_N) (hr : meth.sig.returnType = (some .int)) (hlk : meth.locks = false) : ra_At X p l e rm_N_behind s m args below meth c 4 (MQ below (ra_Qc X Z) args s 0 0 (ra_A X)) (b_N_behind_9 c0 Z) 9 :=
  r_aload_n F d_N_behind_9 rfl <| r_getR F cg_N (j := 12) (by decide) rfl fl_N_40 d_N_behind_10 <| r_iload_n F d_N_behind_13 rfl <| r_iaload F d_N_behind_14 <| r_goto F d_N_behind_15 (by decide) (o_N_behind_52 h0 F hr hlk)
theorem o_N_behind_0 {X : ra_X} {p : Program} {l : Launch} {e : Env} {s : State} {m : MethodId} {args : Array Value} {below : List Frame} {meth : Method} {c : Code} {Z : ra_R} {c0 : ra_Sp}  (h0 : ra_MOK l X mi_N_lays c0) (F : ra_Fx X p rm_N_behind s m args c prog_13_method_29_code 4 cn_N) (hr : meth.sig.returnType = (some .int)) (hlk : meth.locks = false) : ra_At X p l e rm_N_behind s m args below meth c 4 (MQ below (ra_Qc X Z) args s 0 0 (ra_A X)) (b_N_behind_0 c0 Z) 0 :=
  r_aload_n F d_N_behind_0 rfl <| r_iload_n F d_N_behind_1 rfl <| r_callV F h0 (co_N_lays (by decide +kernel) (by decide +kernel)) ⟨rfl, by decide +kernel⟩ ⟨rfl, by decide⟩ ml_N_166 im_N_lays se_N_lays d_N_behind_2 <| r_iload_n F d_N_behind_5 rfl <| r_if_ne F d_N_behind_6 (by decide) (o_N_behind_18 h0 F hr hlk) (o_N_behind_9 h0 F hr hlk)
theorem g_N_behind {l : Launch} {X : ra_X} {c0 : ra_Sp}  (h0 : ra_MOK l X mi_N_lays c0) (sp : ra_Sp) (ve : ∀ as σ Z, ra_c1 as = true → as.length = 4 → sp as σ Z → b_N_behind_0 c0 Z (ra_pad 4 as) [] σ) : ra_MOK l X mi_N_behind sp := by
  refine ra_enter (k := fun Z as σ => b_N_behind_0 c0 Z) cn_N rfl (by decide +kernel) ⟨by decide +kernel, by decide +kernel⟩ (by decide +kernel) ?_ ve
  intro p e s m args below meth c Z as σ hsp F hr hlk
  exact o_N_behind_0 h0 F hr hlk

theorem d_N_tiles_0 : decode prog_13_method_31_code 0 = .ok (.aload_n 0, 1) := by decide +kernel
theorem d_N_tiles_1 : decode prog_13_method_31_code 1 = .ok (.iload_n 1, 1) := by decide +kernel
theorem d_N_tiles_2 : decode prog_13_method_31_code 2 = .ok (.iload_n 2, 1) := by decide +kernel
theorem d_N_tiles_3 : decode prog_13_method_31_code 3 = .ok (.invokevirtual 169, 3) := by decide +kernel
theorem d_N_tiles_6 : decode prog_13_method_31_code 6 = .ok (.ifCond .eq 13, 3) := by decide +kernel
theorem d_N_tiles_9 : decode prog_13_method_31_code 9 = .ok (.aload_n 0, 1) := by decide +kernel
theorem d_N_tiles_10 : decode prog_13_method_31_code 10 = .ok (.iload_n 1, 1) := by decide +kernel
theorem d_N_tiles_11 : decode prog_13_method_31_code 11 = .ok (.iload_n 2, 1) := by decide +kernel
theorem d_N_tiles_12 : decode prog_13_method_31_code 12 = .ok (.iconst 0, 1) := by decide +kernel
theorem d_N_tiles_13 : decode prog_13_method_31_code 13 = .ok (.invokevirtual 172, 3) := by decide +kernel
theorem d_N_tiles_16 : decode prog_13_method_31_code 16 = .ok (.goto 5, 3) := by decide +kernel
theorem d_N_tiles_19 : decode prog_13_method_31_code 19 = .ok (.bipush (-2), 2) := by decide +kernel
theorem d_N_tiles_21 : decode prog_13_method_31_code 21 = .ok (.ireturn, 1) := by decide +kernel
def b_N_tiles_21 (c0 c1 : ra_Sp) (Z : ra_R) : ra_K := w_ir Z
def b_N_tiles_19 (c0 c1 : ra_Sp) (Z : ra_R) : ra_K := w_c (-2) <| (b_N_tiles_21 c0 c1 Z)
def b_N_tiles_9 (c0 c1 : ra_Sp) (Z : ra_R) : ra_K := w_al 0 <| w_il 1 <| w_il 2 <| w_c 0 <| w_cv c1 4 11 <| (b_N_tiles_21 c0 c1 Z)
def b_N_tiles_0 (c0 c1 : ra_Sp) (Z : ra_R) : ra_K := w_al 0 <| w_il 1 <| w_il 2 <| w_cv c0 3 11 <| w_b1 (fun x => x = 0) (b_N_tiles_19 c0 c1 Z) (b_N_tiles_9 c0 c1 Z)
theorem o_N_tiles_21 {X : ra_X} {p : Program} {l : Launch} {e : Env} {s : State} {m : MethodId} {args : Array Value} {below : List Frame} {meth : Method} {c : Code} {Z : ra_R} {c0 c1 : ra_Sp}  (h0 : ra_MOK l X mi_N_isAt c0) (h1 : ra_MOK l X mi_N_behind c1) (F : ra_Fx X p rm_N_tiles s m args c prog_13_method_31_code 3 cn_N) (hr : meth.sig.returnType = (some .int)) (hlk : meth.locks = false) : ra_At X p l e rm_N_tiles s m args below meth c 3 (MQ below (ra_Qc X Z) args s 0 0 (ra_A X)) (b_N_tiles_21 c0 c1 Z) 21 :=
  r_ireturn F hr hlk d_N_tiles_21
theorem o_N_tiles_19 {X : ra_X} {p : Program} {l : Launch} {e : Env} {s : State} {m : MethodId} {args : Array Value} {below : List Frame} {meth : Method} {c : Code} {Z : ra_R} {c0 c1 : ra_Sp}  (h0 : ra_MOK l X mi_N_isAt c0) (h1 : ra_MOK l X mi_N_behind c1) (F : ra_Fx X p rm_N_tiles s m args c prog_13_method_31_code 3 cn_N) (hr : meth.sig.returnType = (some .int)) (hlk : meth.locks = false) : ra_At X p l e rm_N_tiles s m args below meth c 3 (MQ below (ra_Qc X Z) args s 0 0 (ra_A X)) (b_N_tiles_19 c0 c1 Z) 19 :=
  r_bipush F d_N_tiles_19 (by decide) <| (o_N_tiles_21 h0 h1 F hr hlk)
theorem o_N_tiles_9 {X : ra_X} {p : Program} {l : Launch} {e : Env} {s : State} {m : MethodId} {args : Array Value} {below : List Frame} {meth : Method} {c : Code} {Z : ra_R} {c0 c1 : ra_Sp}  (h0 : ra_MOK l X mi_N_isAt c0) (h1 : ra_MOK l X mi_N_behind c1) (F : ra_Fx X p rm_N_tiles s m args c prog_13_method_31_code 3 cn_N) (hr : meth.sig.returnType = (some .int)) (hlk : meth.locks = false) : ra_At X p l e rm_N_tiles s m args below meth c 3 (MQ below (ra_Qc X Z) args s 0 0 (ra_A X)) (b_N_tiles_9 c0 c1 Z) 9 :=
  r_aload_n F d_N_tiles_9 rfl <| r_iload_n F d_N_tiles_10 rfl <| r_iload_n F d_N_tiles_11 rfl <| r_iconst F d_N_tiles_12 (by decide) <| r_callV F h1 (co_N_behind (by decide +kernel) (by decide +kernel)) ⟨rfl, by decide +kernel⟩ ⟨rfl, by decide⟩ ml_N_172 im_N_behind se_N_behind d_N_tiles_13 <| r_goto F d_N_tiles_16 (by decide) (o_N_tiles_21 h0 h1 F hr hlk)
theorem o_N_tiles_0 {X : ra_X} {p : Program} {l : Launch} {e : Env} {s : State} {m : MethodId} {args : Array Value} {below : List Frame} {meth : Method} {c : Code} {Z : ra_R} {c0 c1 : ra_Sp}  (h0 : ra_MOK l X mi_N_isAt c0) (h1 : ra_MOK l X mi_N_behind c1) (F : ra_Fx X p rm_N_tiles s m args c prog_13_method_31_code 3 cn_N) (hr : meth.sig.returnType = (some .int)) (hlk : meth.locks = false) : ra_At X p l e rm_N_tiles s m args below meth c 3 (MQ below (ra_Qc X Z) args s 0 0 (ra_A X)) (b_N_tiles_0 c0 c1 Z) 0 :=
  r_aload_n F d_N_tiles_0 rfl <| r_iload_n F d_N_tiles_1 rfl <| r_iload_n F d_N_tiles_2 rfl <| r_callV F h0 (co_N_isAt (by decide +kernel) (by decide +kernel)) ⟨rfl, by decide +kernel⟩ ⟨rfl, by decide⟩ ml_N_169 im_N_isAt se_N_isAt d_N_tiles_3 <| r_if_eq F d_N_tiles_6 (by decide) (o_N_tiles_19 h0 h1 F hr hlk) (o_N_tiles_9 h0 h1 F hr hlk)
theorem g_N_tiles {l : Launch} {X : ra_X} {c0 c1 : ra_Sp}  (h0 : ra_MOK l X mi_N_isAt c0) (h1 : ra_MOK l X mi_N_behind c1) (sp : ra_Sp) (ve : ∀ as σ Z, ra_c1 as = true → as.length = 3 → sp as σ Z → b_N_tiles_0 c0 c1 Z (ra_pad 3 as) [] σ) : ra_MOK l X mi_N_tiles sp := by
  refine ra_enter (k := fun Z as σ => b_N_tiles_0 c0 c1 Z) cn_N rfl (by decide +kernel) ⟨by decide +kernel, by decide +kernel⟩ (by decide +kernel) ?_ ve
  intro p e s m args below meth c Z as σ hsp F hr hlk
  exact o_N_tiles_0 h0 h1 F hr hlk

theorem d_N_purse_0 : decode prog_13_method_32_code 0 = .ok (.aload_n 0, 1) := by decide +kernel
theorem d_N_purse_1 : decode prog_13_method_32_code 1 = .ok (.iload_n 1, 1) := by decide +kernel
theorem d_N_purse_2 : decode prog_13_method_32_code 2 = .ok (.iload_n 2, 1) := by decide +kernel
theorem d_N_purse_3 : decode prog_13_method_32_code 3 = .ok (.invokevirtual 169, 3) := by decide +kernel
theorem d_N_purse_6 : decode prog_13_method_32_code 6 = .ok (.ifCond .eq 13, 3) := by decide +kernel
theorem d_N_purse_9 : decode prog_13_method_32_code 9 = .ok (.aload_n 0, 1) := by decide +kernel
theorem d_N_purse_10 : decode prog_13_method_32_code 10 = .ok (.iload_n 1, 1) := by decide +kernel
theorem d_N_purse_11 : decode prog_13_method_32_code 11 = .ok (.iload_n 2, 1) := by decide +kernel
theorem d_N_purse_12 : decode prog_13_method_32_code 12 = .ok (.iconst 1, 1) := by decide +kernel
theorem d_N_purse_13 : decode prog_13_method_32_code 13 = .ok (.invokevirtual 172, 3) := by decide +kernel
theorem d_N_purse_16 : decode prog_13_method_32_code 16 = .ok (.goto 5, 3) := by decide +kernel
theorem d_N_purse_19 : decode prog_13_method_32_code 19 = .ok (.bipush (-2), 2) := by decide +kernel
theorem d_N_purse_21 : decode prog_13_method_32_code 21 = .ok (.ireturn, 1) := by decide +kernel
def b_N_purse_21 (c0 c1 : ra_Sp) (Z : ra_R) : ra_K := w_ir Z
def b_N_purse_19 (c0 c1 : ra_Sp) (Z : ra_R) : ra_K := w_c (-2) <| (b_N_purse_21 c0 c1 Z)
def b_N_purse_9 (c0 c1 : ra_Sp) (Z : ra_R) : ra_K := w_al 0 <| w_il 1 <| w_il 2 <| w_c 1 <| w_cv c1 4 11 <| (b_N_purse_21 c0 c1 Z)
def b_N_purse_0 (c0 c1 : ra_Sp) (Z : ra_R) : ra_K := w_al 0 <| w_il 1 <| w_il 2 <| w_cv c0 3 11 <| w_b1 (fun x => x = 0) (b_N_purse_19 c0 c1 Z) (b_N_purse_9 c0 c1 Z)
theorem o_N_purse_21 {X : ra_X} {p : Program} {l : Launch} {e : Env} {s : State} {m : MethodId} {args : Array Value} {below : List Frame} {meth : Method} {c : Code} {Z : ra_R} {c0 c1 : ra_Sp}  (h0 : ra_MOK l X mi_N_isAt c0) (h1 : ra_MOK l X mi_N_behind c1) (F : ra_Fx X p rm_N_purse s m args c prog_13_method_32_code 3 cn_N) (hr : meth.sig.returnType = (some .int)) (hlk : meth.locks = false) : ra_At X p l e rm_N_purse s m args below meth c 3 (MQ below (ra_Qc X Z) args s 0 0 (ra_A X)) (b_N_purse_21 c0 c1 Z) 21 :=
  r_ireturn F hr hlk d_N_purse_21
theorem o_N_purse_19 {X : ra_X} {p : Program} {l : Launch} {e : Env} {s : State} {m : MethodId} {args : Array Value} {below : List Frame} {meth : Method} {c : Code} {Z : ra_R} {c0 c1 : ra_Sp}  (h0 : ra_MOK l X mi_N_isAt c0) (h1 : ra_MOK l X mi_N_behind c1) (F : ra_Fx X p rm_N_purse s m args c prog_13_method_32_code 3 cn_N) (hr : meth.sig.returnType = (some .int)) (hlk : meth.locks = false) : ra_At X p l e rm_N_purse s m args below meth c 3 (MQ below (ra_Qc X Z) args s 0 0 (ra_A X)) (b_N_purse_19 c0 c1 Z) 19 :=
  r_bipush F d_N_purse_19 (by decide) <| (o_N_purse_21 h0 h1 F hr hlk)
theorem o_N_purse_9 {X : ra_X} {p : Program} {l : Launch} {e : Env} {s : State} {m : MethodId} {args : Array Value} {below : List Frame} {meth : Method} {c : Code} {Z : ra_R} {c0 c1 : ra_Sp}  (h0 : ra_MOK l X mi_N_isAt c0) (h1 : ra_MOK l X mi_N_behind c1) (F : ra_Fx X p rm_N_purse s m args c prog_13_method_32_code 3 cn_N) (hr : meth.sig.returnType = (some .int)) (hlk : meth.locks = false) : ra_At X p l e rm_N_purse s m args below meth c 3 (MQ below (ra_Qc X Z) args s 0 0 (ra_A X)) (b_N_purse_9 c0 c1 Z) 9 :=
  r_aload_n F d_N_purse_9 rfl <| r_iload_n F d_N_purse_10 rfl <| r_iload_n F d_N_purse_11 rfl <| r_iconst F d_N_purse_12 (by decide) <| r_callV F h1 (co_N_behind (by decide +kernel) (by decide +kernel)) ⟨rfl, by decide +kernel⟩ ⟨rfl, by decide⟩ ml_N_172 im_N_behind se_N_behind d_N_purse_13 <| r_goto F d_N_purse_16 (by decide) (o_N_purse_21 h0 h1 F hr hlk)
theorem o_N_purse_0 {X : ra_X} {p : Program} {l : Launch} {e : Env} {s : State} {m : MethodId} {args : Array Value} {below : List Frame} {meth : Method} {c : Code} {Z : ra_R} {c0 c1 : ra_Sp}  (h0 : ra_MOK l X mi_N_isAt c0) (h1 : ra_MOK l X mi_N_behind c1) (F : ra_Fx X p rm_N_purse s m args c prog_13_method_32_code 3 cn_N) (hr : meth.sig.returnType = (some .int)) (hlk : meth.locks = false) : ra_At X p l e rm_N_purse s m args below meth c 3 (MQ below (ra_Qc X Z) args s 0 0 (ra_A X)) (b_N_purse_0 c0 c1 Z) 0 :=
  r_aload_n F d_N_purse_0 rfl <| r_iload_n F d_N_purse_1 rfl <| r_iload_n F d_N_purse_2 rfl <| r_callV F h0 (co_N_isAt (by decide +kernel) (by decide +kernel)) ⟨rfl, by decide +kernel⟩ ⟨rfl, by decide⟩ ml_N_169 im_N_isAt se_N_isAt d_N_purse_3 <| r_if_eq F d_N_purse_6 (by decide) (o_N_purse_19 h0 h1 F hr hlk) (o_N_purse_9 h0 h1 F hr hlk)
theorem g_N_purse {l : Launch} {X : ra_X} {c0 c1 : ra_Sp}  (h0 : ra_MOK l X mi_N_isAt c0) (h1 : ra_MOK l X mi_N_behind c1) (sp : ra_Sp) (ve : ∀ as σ Z, ra_c1 as = true → as.length = 3 → sp as σ Z → b_N_purse_0 c0 c1 Z (ra_pad 3 as) [] σ) : ra_MOK l X mi_N_purse sp := by
  refine ra_enter (k := fun Z as σ => b_N_purse_0 c0 c1 Z) cn_N rfl (by decide +kernel) ⟨by decide +kernel, by decide +kernel⟩ (by decide +kernel) ?_ ve
  intro p e s m args below meth c Z as σ hsp F hr hlk
  exact o_N_purse_0 h0 h1 F hr hlk

theorem d_N_harm_0 : decode prog_13_method_33_code 0 = .ok (.aload_n 0, 1) := by decide +kernel
theorem d_N_harm_1 : decode prog_13_method_33_code 1 = .ok (.iload_n 1, 1) := by decide +kernel
theorem d_N_harm_2 : decode prog_13_method_33_code 2 = .ok (.iload_n 2, 1) := by decide +kernel
theorem d_N_harm_3 : decode prog_13_method_33_code 3 = .ok (.invokevirtual 169, 3) := by decide +kernel
theorem d_N_harm_6 : decode prog_13_method_33_code 6 = .ok (.ifCond .eq 13, 3) := by decide +kernel
theorem d_N_harm_9 : decode prog_13_method_33_code 9 = .ok (.aload_n 0, 1) := by decide +kernel
theorem d_N_harm_10 : decode prog_13_method_33_code 10 = .ok (.iload_n 1, 1) := by decide +kernel
theorem d_N_harm_11 : decode prog_13_method_33_code 11 = .ok (.iload_n 2, 1) := by decide +kernel
theorem d_N_harm_12 : decode prog_13_method_33_code 12 = .ok (.iconst 2, 1) := by decide +kernel
theorem d_N_harm_13 : decode prog_13_method_33_code 13 = .ok (.invokevirtual 172, 3) := by decide +kernel
theorem d_N_harm_16 : decode prog_13_method_33_code 16 = .ok (.goto 5, 3) := by decide +kernel
theorem d_N_harm_19 : decode prog_13_method_33_code 19 = .ok (.bipush (-2), 2) := by decide +kernel
theorem d_N_harm_21 : decode prog_13_method_33_code 21 = .ok (.ireturn, 1) := by decide +kernel
def b_N_harm_21 (c0 c1 : ra_Sp) (Z : ra_R) : ra_K := w_ir Z
def b_N_harm_19 (c0 c1 : ra_Sp) (Z : ra_R) : ra_K := w_c (-2) <| (b_N_harm_21 c0 c1 Z)
def b_N_harm_9 (c0 c1 : ra_Sp) (Z : ra_R) : ra_K := w_al 0 <| w_il 1 <| w_il 2 <| w_c 2 <| w_cv c1 4 11 <| (b_N_harm_21 c0 c1 Z)
def b_N_harm_0 (c0 c1 : ra_Sp) (Z : ra_R) : ra_K := w_al 0 <| w_il 1 <| w_il 2 <| w_cv c0 3 11 <| w_b1 (fun x => x = 0) (b_N_harm_19 c0 c1 Z) (b_N_harm_9 c0 c1 Z)
theorem o_N_harm_21 {X : ra_X} {p : Program} {l : Launch} {e : Env} {s : State} {m : MethodId} {args : Array Value} {below : List Frame} {meth : Method} {c : Code} {Z : ra_R} {c0 c1 : ra_Sp}  (h0 : ra_MOK l X mi_N_isAt c0) (h1 : ra_MOK l X mi_N_behind c1) (F : ra_Fx X p rm_N_harm s m args c prog_13_method_33_code 3 cn_N) (hr : meth.sig.returnType = (some .int)) (hlk : meth.locks = false) : ra_At X p l e rm_N_harm s m args below meth c 3 (MQ below (ra_Qc X Z) args s 0 0 (ra_A X)) (b_N_harm_21 c0 c1 Z) 21 :=
  r_ireturn F hr hlk d_N_harm_21
theorem o_N_harm_19 {X : ra_X} {p : Program} {l : Launch} {e : Env} {s : State} {m : MethodId} {args : Array Value} {below : List Frame} {meth : Method} {c : Code} {Z : ra_R} {c0 c1 : ra_Sp}  (h0 : ra_MOK l X mi_N_isAt c0) (h1 : ra_MOK l X mi_N_behind c1) (F : ra_Fx X p rm_N_harm s m args c prog_13_method_33_code 3 cn_N) (hr : meth.sig.returnType = (some .int)) (hlk : meth.locks = false) : ra_At X p l e rm_N_harm s m args below meth c 3 (MQ below (ra_Qc X Z) args s 0 0 (ra_A X)) (b_N_harm_19 c0 c1 Z) 19 :=
  r_bipush F d_N_harm_19 (by decide) <| (o_N_harm_21 h0 h1 F hr hlk)
theorem o_N_harm_9 {X : ra_X} {p : Program} {l : Launch} {e : Env} {s : State} {m : MethodId} {args : Array Value} {below : List Frame} {meth : Method} {c : Code} {Z : ra_R} {c0 c1 : ra_Sp}  (h0 : ra_MOK l X mi_N_isAt c0) (h1 : ra_MOK l X mi_N_behind c1) (F : ra_Fx X p rm_N_harm s m args c prog_13_method_33_code 3 cn_N) (hr : meth.sig.returnType = (some .int)) (hlk : meth.locks = false) : ra_At X p l e rm_N_harm s m args below meth c 3 (MQ below (ra_Qc X Z) args s 0 0 (ra_A X)) (b_N_harm_9 c0 c1 Z) 9 :=
  r_aload_n F d_N_harm_9 rfl <| r_iload_n F d_N_harm_10 rfl <| r_iload_n F d_N_harm_11 rfl <| r_iconst F d_N_harm_12 (by decide) <| r_callV F h1 (co_N_behind (by decide +kernel) (by decide +kernel)) ⟨rfl, by decide +kernel⟩ ⟨rfl, by decide⟩ ml_N_172 im_N_behind se_N_behind d_N_harm_13 <| r_goto F d_N_harm_16 (by decide) (o_N_harm_21 h0 h1 F hr hlk)
theorem o_N_harm_0 {X : ra_X} {p : Program} {l : Launch} {e : Env} {s : State} {m : MethodId} {args : Array Value} {below : List Frame} {meth : Method} {c : Code} {Z : ra_R} {c0 c1 : ra_Sp}  (h0 : ra_MOK l X mi_N_isAt c0) (h1 : ra_MOK l X mi_N_behind c1) (F : ra_Fx X p rm_N_harm s m args c prog_13_method_33_code 3 cn_N) (hr : meth.sig.returnType = (some .int)) (hlk : meth.locks = false) : ra_At X p l e rm_N_harm s m args below meth c 3 (MQ below (ra_Qc X Z) args s 0 0 (ra_A X)) (b_N_harm_0 c0 c1 Z) 0 :=
  r_aload_n F d_N_harm_0 rfl <| r_iload_n F d_N_harm_1 rfl <| r_iload_n F d_N_harm_2 rfl <| r_callV F h0 (co_N_isAt (by decide +kernel) (by decide +kernel)) ⟨rfl, by decide +kernel⟩ ⟨rfl, by decide⟩ ml_N_169 im_N_isAt se_N_isAt d_N_harm_3 <| r_if_eq F d_N_harm_6 (by decide) (o_N_harm_19 h0 h1 F hr hlk) (o_N_harm_9 h0 h1 F hr hlk)
theorem g_N_harm {l : Launch} {X : ra_X} {c0 c1 : ra_Sp}  (h0 : ra_MOK l X mi_N_isAt c0) (h1 : ra_MOK l X mi_N_behind c1) (sp : ra_Sp) (ve : ∀ as σ Z, ra_c1 as = true → as.length = 3 → sp as σ Z → b_N_harm_0 c0 c1 Z (ra_pad 3 as) [] σ) : ra_MOK l X mi_N_harm sp := by
  refine ra_enter (k := fun Z as σ => b_N_harm_0 c0 c1 Z) cn_N rfl (by decide +kernel) ⟨by decide +kernel, by decide +kernel⟩ (by decide +kernel) ?_ ve
  intro p e s m args below meth c Z as σ hsp F hr hlk
  exact o_N_harm_0 h0 h1 F hr hlk

theorem d_N_laid_0 : decode prog_13_method_34_code 0 = .ok (.aload_n 0, 1) := by decide +kernel
theorem d_N_laid_1 : decode prog_13_method_34_code 1 = .ok (.iload_n 1, 1) := by decide +kernel
theorem d_N_laid_2 : decode prog_13_method_34_code 2 = .ok (.iload_n 2, 1) := by decide +kernel
theorem d_N_laid_3 : decode prog_13_method_34_code 3 = .ok (.invokevirtual 169, 3) := by decide +kernel
theorem d_N_laid_6 : decode prog_13_method_34_code 6 = .ok (.ifCond .eq 13, 3) := by decide +kernel
theorem d_N_laid_9 : decode prog_13_method_34_code 9 = .ok (.aload_n 0, 1) := by decide +kernel
theorem d_N_laid_10 : decode prog_13_method_34_code 10 = .ok (.iload_n 1, 1) := by decide +kernel
theorem d_N_laid_11 : decode prog_13_method_34_code 11 = .ok (.iload_n 2, 1) := by decide +kernel
theorem d_N_laid_12 : decode prog_13_method_34_code 12 = .ok (.iconst 3, 1) := by decide +kernel
theorem d_N_laid_13 : decode prog_13_method_34_code 13 = .ok (.invokevirtual 172, 3) := by decide +kernel
theorem d_N_laid_16 : decode prog_13_method_34_code 16 = .ok (.goto 5, 3) := by decide +kernel
theorem d_N_laid_19 : decode prog_13_method_34_code 19 = .ok (.bipush (-2), 2) := by decide +kernel
theorem d_N_laid_21 : decode prog_13_method_34_code 21 = .ok (.ireturn, 1) := by decide +kernel
def b_N_laid_21 (c0 c1 : ra_Sp) (Z : ra_R) : ra_K := w_ir Z
def b_N_laid_19 (c0 c1 : ra_Sp) (Z : ra_R) : ra_K := w_c (-2) <| (b_N_laid_21 c0 c1 Z)
def b_N_laid_9 (c0 c1 : ra_Sp) (Z : ra_R) : ra_K := w_al 0 <| w_il 1 <| w_il 2 <| w_c 3 <| w_cv c1 4 11 <| (b_N_laid_21 c0 c1 Z)
def b_N_laid_0 (c0 c1 : ra_Sp) (Z : ra_R) : ra_K := w_al 0 <| w_il 1 <| w_il 2 <| w_cv c0 3 11 <| w_b1 (fun x => x = 0) (b_N_laid_19 c0 c1 Z) (b_N_laid_9 c0 c1 Z)
theorem o_N_laid_21 {X : ra_X} {p : Program} {l : Launch} {e : Env} {s : State} {m : MethodId} {args : Array Value} {below : List Frame} {meth : Method} {c : Code} {Z : ra_R} {c0 c1 : ra_Sp}  (h0 : ra_MOK l X mi_N_isAt c0) (h1 : ra_MOK l X mi_N_behind c1) (F : ra_Fx X p rm_N_laid s m args c prog_13_method_34_code 3 cn_N) (hr : meth.sig.returnType = (some .int)) (hlk : meth.locks = false) : ra_At X p l e rm_N_laid s m args below meth c 3 (MQ below (ra_Qc X Z) args s 0 0 (ra_A X)) (b_N_laid_21 c0 c1 Z) 21 :=
  r_ireturn F hr hlk d_N_laid_21
theorem o_N_laid_19 {X : ra_X} {p : Program} {l : Launch} {e : Env} {s : State} {m : MethodId} {args : Array Value} {below : List Frame} {meth : Method} {c : Code} {Z : ra_R} {c0 c1 : ra_Sp}  (h0 : ra_MOK l X mi_N_isAt c0) (h1 : ra_MOK l X mi_N_behind c1) (F : ra_Fx X p rm_N_laid s m args c prog_13_method_34_code 3 cn_N) (hr : meth.sig.returnType = (some .int)) (hlk : meth.locks = false) : ra_At X p l e rm_N_laid s m args below meth c 3 (MQ below (ra_Qc X Z) args s 0 0 (ra_A X)) (b_N_laid_19 c0 c1 Z) 19 :=
  r_bipush F d_N_laid_19 (by decide) <| (o_N_laid_21 h0 h1 F hr hlk)
theorem o_N_laid_9 {X : ra_X} {p : Program} {l : Launch} {e : Env} {s : State} {m : MethodId} {args : Array Value} {below : List Frame} {meth : Method} {c : Code} {Z : ra_R} {c0 c1 : ra_Sp}  (h0 : ra_MOK l X mi_N_isAt c0) (h1 : ra_MOK l X mi_N_behind c1) (F : ra_Fx X p rm_N_laid s m args c prog_13_method_34_code 3 cn_N) (hr : meth.sig.returnType = (some .int)) (hlk : meth.locks = false) : ra_At X p l e rm_N_laid s m args below meth c 3 (MQ below (ra_Qc X Z) args s 0 0 (ra_A X)) (b_N_laid_9 c0 c1 Z) 9 :=
  r_aload_n F d_N_laid_9 rfl <| r_iload_n F d_N_laid_10 rfl <| r_iload_n F d_N_laid_11 rfl <| r_iconst F d_N_laid_12 (by decide) <| r_callV F h1 (co_N_behind (by decide +kernel) (by decide +kernel)) ⟨rfl, by decide +kernel⟩ ⟨rfl, by decide⟩ ml_N_172 im_N_behind se_N_behind d_N_laid_13 <| r_goto F d_N_laid_16 (by decide) (o_N_laid_21 h0 h1 F hr hlk)
theorem o_N_laid_0 {X : ra_X} {p : Program} {l : Launch} {e : Env} {s : State} {m : MethodId} {args : Array Value} {below : List Frame} {meth : Method} {c : Code} {Z : ra_R} {c0 c1 : ra_Sp}  (h0 : ra_MOK l X mi_N_isAt c0) (h1 : ra_MOK l X mi_N_behind c1) (F : ra_Fx X p rm_N_laid s m args c prog_13_method_34_code 3 cn_N) (hr : meth.sig.returnType = (some .int)) (hlk : meth.locks = false) : ra_At X p l e rm_N_laid s m args below meth c 3 (MQ below (ra_Qc X Z) args s 0 0 (ra_A X)) (b_N_laid_0 c0 c1 Z) 0 :=
  r_aload_n F d_N_laid_0 rfl <| r_iload_n F d_N_laid_1 rfl <| r_iload_n F d_N_laid_2 rfl <| r_callV F h0 (co_N_isAt (by decide +kernel) (by decide +kernel)) ⟨rfl, by decide +kernel⟩ ⟨rfl, by decide⟩ ml_N_169 im_N_isAt se_N_isAt d_N_laid_3 <| r_if_eq F d_N_laid_6 (by decide) (o_N_laid_19 h0 h1 F hr hlk) (o_N_laid_9 h0 h1 F hr hlk)
theorem g_N_laid {l : Launch} {X : ra_X} {c0 c1 : ra_Sp}  (h0 : ra_MOK l X mi_N_isAt c0) (h1 : ra_MOK l X mi_N_behind c1) (sp : ra_Sp) (ve : ∀ as σ Z, ra_c1 as = true → as.length = 3 → sp as σ Z → b_N_laid_0 c0 c1 Z (ra_pad 3 as) [] σ) : ra_MOK l X mi_N_laid sp := by
  refine ra_enter (k := fun Z as σ => b_N_laid_0 c0 c1 Z) cn_N rfl (by decide +kernel) ⟨by decide +kernel, by decide +kernel⟩ (by decide +kernel) ?_ ve
  intro p e s m args below meth c Z as σ hsp F hr hlk
  exact o_N_laid_0 h0 h1 F hr hlk

theorem d_N_allOf_0 : decode prog_13_method_35_code 0 = .ok (.aload_n 0, 1) := by decide +kernel
theorem d_N_allOf_1 : decode prog_13_method_35_code 1 = .ok (.invokevirtual 134, 3) := by decide +kernel
theorem d_N_allOf_4 : decode prog_13_method_35_code 4 = .ok (.iconst 0, 1) := by decide +kernel
theorem d_N_allOf_5 : decode prog_13_method_35_code 5 = .ok (.istore_n 3, 1) := by decide +kernel
theorem d_N_allOf_6 : decode prog_13_method_35_code 6 = .ok (.iconst 0, 1) := by decide +kernel
theorem d_N_allOf_7 : decode prog_13_method_35_code 7 = .ok (.istore 4, 2) := by decide +kernel
theorem d_N_allOf_9 : decode prog_13_method_35_code 9 = .ok (.iload 4, 2) := by decide +kernel
theorem d_N_allOf_11 : decode prog_13_method_35_code 11 = .ok (.aload_n 0, 1) := by decide +kernel
theorem d_N_allOf_12 : decode prog_13_method_35_code 12 = .ok (.getfield 109, 3) := by decide +kernel
theorem d_N_allOf_15 : decode prog_13_method_35_code 15 = .ok (.if_icmp .ge 20, 3) := by decide +kernel
theorem d_N_allOf_18 : decode prog_13_method_35_code 18 = .ok (.iload_n 3, 1) := by decide +kernel
theorem d_N_allOf_19 : decode prog_13_method_35_code 19 = .ok (.aload_n 0, 1) := by decide +kernel
theorem d_N_allOf_20 : decode prog_13_method_35_code 20 = .ok (.iload 4, 2) := by decide +kernel
theorem d_N_allOf_22 : decode prog_13_method_35_code 22 = .ok (.iload_n 1, 1) := by decide +kernel
theorem d_N_allOf_23 : decode prog_13_method_35_code 23 = .ok (.iload_n 2, 1) := by decide +kernel
theorem d_N_allOf_24 : decode prog_13_method_35_code 24 = .ok (.invokevirtual 172, 3) := by decide +kernel
theorem d_N_allOf_27 : decode prog_13_method_35_code 27 = .ok (.iadd, 1) := by decide +kernel
theorem d_N_allOf_28 : decode prog_13_method_35_code 28 = .ok (.istore_n 3, 1) := by decide +kernel
theorem d_N_allOf_29 : decode prog_13_method_35_code 29 = .ok (.iinc 4 1, 3) := by decide +kernel
theorem d_N_allOf_32 : decode prog_13_method_35_code 32 = .ok (.goto (-23), 3) := by decide +kernel
theorem d_N_allOf_35 : decode prog_13_method_35_code 35 = .ok (.iload_n 3, 1) := by decide +kernel
theorem d_N_allOf_36 : decode prog_13_method_35_code 36 = .ok (.ireturn, 1) := by decide +kernel
def b_N_allOf_35 (c0 c1 : ra_Sp) (I : Nat → ra_K) (Z : ra_R) : ra_K := w_il 3 <| w_ir Z
def b_N_allOf_18 (c0 c1 : ra_Sp) (I : Nat → ra_K) (Z : ra_R) : ra_K := w_il 3 <| w_al 0 <| w_il 4 <| w_il 1 <| w_il 2 <| w_cv c1 4 11 <| w_i2 (fun x y => x + y) <| w_is 3 <| w_inc 4 1 <| (I 9)
def b_N_allOf_9 (c0 c1 : ra_Sp) (I : Nat → ra_K) (Z : ra_R) : ra_K := w_il 4 <| w_al 0 <| w_gi 11 2 <| w_b2 (fun x y => y ≤ x) (b_N_allOf_35 c0 c1 I Z) (b_N_allOf_18 c0 c1 I Z)
def b_N_allOf_0 (c0 c1 : ra_Sp) (I : Nat → ra_K) (Z : ra_R) : ra_K := w_al 0 <| w_cv c0 1 11 <| w_c 0 <| w_is 3 <| w_c 0 <| w_is 4 <| (I 9)
theorem o_N_allOf_35 {X : ra_X} {p : Program} {l : Launch} {e : Env} {s : State} {m : MethodId} {args : Array Value} {below : List Frame} {meth : Method} {c : Code} {Z : ra_R} {c0 c1 : ra_Sp}  (h0 : ra_MOK l X mi_N_reads c0) (h1 : ra_MOK l X mi_N_behind c1) (F : ra_Fx X p rm_N_allOf s m args c prog_13_method_35_code 5 cn_N) (hr : meth.sig.returnType = (some .int)) (hlk : meth.locks = false) {I : Nat → ra_K} (hI : ∀ t ∈ [9], ra_At X p l e rm_N_allOf s m args below meth c 5 (MQ below (ra_Qc X Z) args s 0 0 (ra_A X)) (I t) t) : ra_At X p l e rm_N_allOf s m args below meth c 5 (MQ below (ra_Qc X Z) args s 0 0 (ra_A X)) (b_N_allOf_35 c0 c1 I Z) 35 :=
  r_iload_n F d_N_allOf_35 rfl <| r_ireturn F hr hlk d_N_allOf_36
theorem o_N_allOf_18 {X : ra_X} {p : Program} {l : Launch} {e : Env} {s : State} {m : MethodId} {args : Array Value} {below : List Frame} {meth : Method} {c : Code} {Z : ra_R} {c0 c1 : ra_Sp}  (h0 : ra_MOK l X mi_N_reads c0) (h1 : ra_MOK l X mi_N_behind c1) (F : ra_Fx X p rm_N_allOf s m args c prog_13_method_35_code 5 cn_N) (hr : meth.sig.returnType = (some .int)) (hlk : meth.locks = false) {I : Nat → ra_K} (hI : ∀ t ∈ [9], ra_At X p l e rm_N_allOf s m args below meth c 5 (MQ below (ra_Qc X Z) args s 0 0 (ra_A X)) (I t) t) : ra_At X p l e rm_N_allOf s m args below meth c 5 (MQ below (ra_Qc X Z) args s 0 0 (ra_A X)) (b_N_allOf_18 c0 c1 I Z) 18 :=
  r_iload_n F d_N_allOf_18 rfl <| r_aload_n F d_N_allOf_19 rfl <| r_iload F d_N_allOf_20 <| r_iload_n F d_N_allOf_22 rfl <| r_iload_n F d_N_allOf_23 rfl <| r_callV F h1 (co_N_behind (by decide +kernel) (by decide +kernel)) ⟨rfl, by decide +kernel⟩ ⟨rfl, by decide⟩ ml_N_172 im_N_behind se_N_behind d_N_allOf_24 <| r_iadd F d_N_allOf_27 <| r_istore_n F d_N_allOf_28 rfl (by decide) <| r_iinc F d_N_allOf_29 (by decide) (by decide) <| r_goto F d_N_allOf_32 (by decide) (hI 9 (by decide))
theorem o_N_allOf_9 {X : ra_X} {p : Program} {l : Launch} {e : Env} {s : State} {m : MethodId} {args : Array Value} {below : List Frame} {meth : Method} {c : Code} {Z : ra_R} {c0 c1 : ra_Sp}  (h0 : ra_MOK l X mi_N_reads c0) (h1 : ra_MOK l X mi_N_behind c1) (F : ra_Fx X p rm_N_allOf s m args c prog_13_method_35_code 5 cn_N) (hr : meth.sig.returnType = (some .int)) (hlk : meth.locks = false) {I : Nat → ra_K} (hI : ∀ t ∈ [9], ra_At X p l e rm_N_allOf s m args below meth c 5 (MQ below (ra_Qc X Z) args s 0 0 (ra_A X)) (I t) t) : ra_At X p l e rm_N_allOf s m args below meth c 5 (MQ below (ra_Qc X Z) args s 0 0 (ra_A X)) (b_N_allOf_9 c0 c1 I Z) 9 :=
  r_iload F d_N_allOf_9 <| r_aload_n F d_N_allOf_11 rfl <| r_getI F cg_N (j := 2) (by decide) rfl fl_N_109 d_N_allOf_12 <| r_icmp_ge F d_N_allOf_15 (by decide) (o_N_allOf_35 h0 h1 F hr hlk hI) (o_N_allOf_18 h0 h1 F hr hlk hI)
theorem o_N_allOf_0 {X : ra_X} {p : Program} {l : Launch} {e : Env} {s : State} {m : MethodId} {args : Array Value} {below : List Frame} {meth : Method} {c : Code} {Z : ra_R} {c0 c1 : ra_Sp}  (h0 : ra_MOK l X mi_N_reads c0) (h1 : ra_MOK l X mi_N_behind c1) (F : ra_Fx X p rm_N_allOf s m args c prog_13_method_35_code 5 cn_N) (hr : meth.sig.returnType = (some .int)) (hlk : meth.locks = false) {I : Nat → ra_K} (hI : ∀ t ∈ [9], ra_At X p l e rm_N_allOf s m args below meth c 5 (MQ below (ra_Qc X Z) args s 0 0 (ra_A X)) (I t) t) : ra_At X p l e rm_N_allOf s m args below meth c 5 (MQ below (ra_Qc X Z) args s 0 0 (ra_A X)) (b_N_allOf_0 c0 c1 I Z) 0 :=
  r_aload_n F d_N_allOf_0 rfl <| r_callV F h0 (co_N_reads (by decide +kernel) (by decide +kernel)) ⟨rfl, by decide +kernel⟩ ⟨rfl, by decide⟩ ml_N_134 im_N_reads se_N_reads d_N_allOf_1 <| r_iconst F d_N_allOf_4 (by decide) <| r_istore_n F d_N_allOf_5 rfl (by decide) <| r_iconst F d_N_allOf_6 (by decide) <| r_istore F d_N_allOf_7 (by decide) <| (hI 9 (by decide))
theorem g_N_allOf {l : Launch} {X : ra_X} {c0 c1 : ra_Sp}  (h0 : ra_MOK l X mi_N_reads c0) (h1 : ra_MOK l X mi_N_behind c1) (sp : ra_Sp) (I : ra_R → List Value → ra_St → Nat → ra_M → ra_K) (ve : ∀ as σ Z, ra_c1 as = true → as.length = 3 → sp as σ Z → b_N_allOf_0 c0 c1 (ra_I (I Z as σ)) Z (ra_pad 5 as) [] σ) (v9 : ∀ as σ Z, sp as σ Z → ∀ μ L S σ1, I Z as σ 9 μ L S σ1 → b_N_allOf_9 c0 c1 (ra_J (I Z as σ) μ) Z L S σ1) : ra_MOK l X mi_N_allOf sp := by
  refine ra_enter (k := fun Z as σ => b_N_allOf_0 c0 c1 (ra_I (I Z as σ)) Z) cn_N rfl (by decide +kernel) ⟨by decide +kernel, by decide +kernel⟩ (by decide +kernel) ?_ ve
  intro p e s m args below meth c Z as σ hsp F hr hlk
  refine o_N_allOf_0 h0 h1 F hr hlk (ra_cuts (b := fun t J => if t = 9 then b_N_allOf_9 c0 c1 J Z else fun _ _ _ => False) ?_ ?_)
  · intro t ht J hJ
    simp only [List.mem_cons, List.not_mem_nil, or_false] at ht
    rcases ht with rfl
    · exact o_N_allOf_9 h0 h1 F hr hlk hJ
  · intro t ht μ L S σ1 hI
    simp only [List.mem_cons, List.not_mem_nil, or_false] at ht
    rcases ht with rfl
    · exact v9 as σ Z hsp μ L S σ1 hI

theorem d_N_all_0 : decode prog_13_method_36_code 0 = .ok (.iload_n 1, 1) := by decide +kernel
theorem d_N_all_1 : decode prog_13_method_36_code 1 = .ok (.iconst 0, 1) := by decide +kernel
theorem d_N_all_2 : decode prog_13_method_36_code 2 = .ok (.aload_n 0, 1) := by decide +kernel
theorem d_N_all_3 : decode prog_13_method_36_code 3 = .ok (.getfield 147, 3) := by decide +kernel
theorem d_N_all_6 : decode prog_13_method_36_code 6 = .ok (.invokestatic 101, 3) := by decide +kernel
theorem d_N_all_9 : decode prog_13_method_36_code 9 = .ok (.ifCond .eq 21, 3) := by decide +kernel
theorem d_N_all_12 : decode prog_13_method_36_code 12 = .ok (.iload_n 2, 1) := by decide +kernel
theorem d_N_all_13 : decode prog_13_method_36_code 13 = .ok (.iconst 0, 1) := by decide +kernel
theorem d_N_all_14 : decode prog_13_method_36_code 14 = .ok (.iconst 3, 1) := by decide +kernel
theorem d_N_all_15 : decode prog_13_method_36_code 15 = .ok (.invokestatic 101, 3) := by decide +kernel
theorem d_N_all_18 : decode prog_13_method_36_code 18 = .ok (.ifCond .eq 12, 3) := by decide +kernel
theorem d_N_all_21 : decode prog_13_method_36_code 21 = .ok (.aload_n 0, 1) := by decide +kernel
theorem d_N_all_22 : decode prog_13_method_36_code 22 = .ok (.iload_n 1, 1) := by decide +kernel
theorem d_N_all_23 : decode prog_13_method_36_code 23 = .ok (.iload_n 2, 1) := by decide +kernel
theorem d_N_all_24 : decode prog_13_method_36_code 24 = .ok (.invokevirtual 176, 3) := by decide +kernel
theorem d_N_all_27 : decode prog_13_method_36_code 27 = .ok (.goto 5, 3) := by decide +kernel
theorem d_N_all_30 : decode prog_13_method_36_code 30 = .ok (.bipush (-2), 2) := by decide +kernel
theorem d_N_all_32 : decode prog_13_method_36_code 32 = .ok (.ireturn, 1) := by decide +kernel
def b_N_all_32 (c0 c1 : ra_Sp) (Z : ra_R) : ra_K := w_ir Z
def b_N_all_30 (c0 c1 : ra_Sp) (Z : ra_R) : ra_K := w_c (-2) <| (b_N_all_32 c0 c1 Z)
def b_N_all_21 (c0 c1 : ra_Sp) (Z : ra_R) : ra_K := w_al 0 <| w_il 1 <| w_il 2 <| w_cv c1 3 11 <| (b_N_all_32 c0 c1 Z)
def b_N_all_12 (c0 c1 : ra_Sp) (Z : ra_R) : ra_K := w_il 2 <| w_c 0 <| w_c 3 <| w_cs c0 3 <| w_b1 (fun x => x = 0) (b_N_all_30 c0 c1 Z) (b_N_all_21 c0 c1 Z)
def b_N_all_0 (c0 c1 : ra_Sp) (Z : ra_R) : ra_K := w_il 1 <| w_c 0 <| w_al 0 <| w_gi 11 7 <| w_cs c0 3 <| w_b1 (fun x => x = 0) (b_N_all_30 c0 c1 Z) (b_N_all_12 c0 c1 Z)
theorem o_N_all_32 {X : ra_X} {p : Program} {l : Launch} {e : Env} {s : State} {m : MethodId} {args : Array Value} {below : List Frame} {meth : Method} {c : Code} {Z : ra_R} {c0 c1 : ra_Sp}  (h0 : ra_MOK l X mi_N_in c0) (h1 : ra_MOK l X mi_N_allOf c1) (F : ra_Fx X p rm_N_all s m args c prog_13_method_36_code 3 cn_N) (hr : meth.sig.returnType = (some .int)) (hlk : meth.locks = false) : ra_At X p l e rm_N_all s m args below meth c 3 (MQ below (ra_Qc X Z) args s 0 0 (ra_A X)) (b_N_all_32 c0 c1 Z) 32 :=
  r_ireturn F hr hlk d_N_all_32
theorem o_N_all_30 {X : ra_X} {p : Program} {l : Launch} {e : Env} {s : State} {m : MethodId} {args : Array Value} {below : List Frame} {meth : Method} {c : Code} {Z : ra_R} {c0 c1 : ra_Sp}  (h0 : ra_MOK l X mi_N_in c0) (h1 : ra_MOK l X mi_N_allOf c1) (F : ra_Fx X p rm_N_all s m args c prog_13_method_36_code 3 cn_N) (hr : meth.sig.returnType = (some .int)) (hlk : meth.locks = false) : ra_At X p l e rm_N_all s m args below meth c 3 (MQ below (ra_Qc X Z) args s 0 0 (ra_A X)) (b_N_all_30 c0 c1 Z) 30 :=
  r_bipush F d_N_all_30 (by decide) <| (o_N_all_32 h0 h1 F hr hlk)
theorem o_N_all_21 {X : ra_X} {p : Program} {l : Launch} {e : Env} {s : State} {m : MethodId} {args : Array Value} {below : List Frame} {meth : Method} {c : Code} {Z : ra_R} {c0 c1 : ra_Sp}  (h0 : ra_MOK l X mi_N_in c0) (h1 : ra_MOK l X mi_N_allOf c1) (F : ra_Fx X p rm_N_all s m args c prog_13_method_36_code 3 cn_N) (hr : meth.sig.returnType = (some .int)) (hlk : meth.locks = false) : ra_At X p l e rm_N_all s m args below meth c 3 (MQ below (ra_Qc X Z) args s 0 0 (ra_A X)) (b_N_all_21 c0 c1 Z) 21 :=
  r_aload_n F d_N_all_21 rfl <| r_iload_n F d_N_all_22 rfl <| r_iload_n F d_N_all_23 rfl <| r_callV F h1 (co_N_allOf (by decide +kernel) (by decide +kernel)) ⟨rfl, by decide +kernel⟩ ⟨rfl, by decide⟩ ml_N_176 im_N_allOf se_N_allOf d_N_all_24 <| r_goto F d_N_all_27 (by decide) (o_N_all_32 h0 h1 F hr hlk)
theorem o_N_all_12 {X : ra_X} {p : Program} {l : Launch} {e : Env} {s : State} {m : MethodId} {args : Array Value} {below : List Frame} {meth : Method} {c : Code} {Z : ra_R} {c0 c1 : ra_Sp}  (h0 : ra_MOK l X mi_N_in c0) (h1 : ra_MOK l X mi_N_allOf c1) (F : ra_Fx X p rm_N_all s m args c prog_13_method_36_code 3 cn_N) (hr : meth.sig.returnType = (some .int)) (hlk : meth.locks = false) : ra_At X p l e rm_N_all s m args below meth c 3 (MQ below (ra_Qc X Z) args s 0 0 (ra_A X)) (b_N_all_12 c0 c1 Z) 12 :=
  r_iload_n F d_N_all_12 rfl <| r_iconst F d_N_all_13 (by decide) <| r_iconst F d_N_all_14 (by decide) <| r_callS F h0 (co_N_in (by decide +kernel) (by decide +kernel)) ⟨rfl, by decide +kernel⟩ ml_N_101 st_N_in d_N_all_15 <| r_if_eq F d_N_all_18 (by decide) (o_N_all_30 h0 h1 F hr hlk) (o_N_all_21 h0 h1 F hr hlk)
theorem o_N_all_0 {X : ra_X} {p : Program} {l : Launch} {e : Env} {s : State} {m : MethodId} {args : Array Value} {below : List Frame} {meth : Method} {c : Code} {Z : ra_R} {c0 c1 : ra_Sp}  (h0 : ra_MOK l X mi_N_in c0) (h1 : ra_MOK l X mi_N_allOf c1) (F : ra_Fx X p rm_N_all s m args c prog_13_method_36_code 3 cn_N) (hr : meth.sig.returnType = (some .int)) (hlk : meth.locks = false) : ra_At X p l e rm_N_all s m args below meth c 3 (MQ below (ra_Qc X Z) args s 0 0 (ra_A X)) (b_N_all_0 c0 c1 Z) 0 :=
  r_iload_n F d_N_all_0 rfl <| r_iconst F d_N_all_1 (by decide) <| r_aload_n F d_N_all_2 rfl <| r_getI F cg_N (j := 7) (by decide) rfl fl_N_147 d_N_all_3 <| r_callS F h0 (co_N_in (by decide +kernel) (by decide +kernel)) ⟨rfl, by decide +kernel⟩ ml_N_101 st_N_in d_N_all_6 <| r_if_eq F d_N_all_9 (by decide) (o_N_all_30 h0 h1 F hr hlk) (o_N_all_12 h0 h1 F hr hlk)
theorem g_N_all {l : Launch} {X : ra_X} {c0 c1 : ra_Sp}  (h0 : ra_MOK l X mi_N_in c0) (h1 : ra_MOK l X mi_N_allOf c1) (sp : ra_Sp) (ve : ∀ as σ Z, ra_c1 as = true → as.length = 3 → sp as σ Z → b_N_all_0 c0 c1 Z (ra_pad 3 as) [] σ) : ra_MOK l X mi_N_all sp := by
  refine ra_enter (k := fun Z as σ => b_N_all_0 c0 c1 Z) cn_N rfl (by decide +kernel) ⟨by decide +kernel, by decide +kernel⟩ (by decide +kernel) ?_ ve
  intro p e s m args below meth c Z as σ hsp F hr hlk
  exact o_N_all_0 h0 h1 F hr hlk
