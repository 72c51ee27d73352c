theorem d_N_lacks_0 : decode prog_13_method_68_code 0 = .ok (.aload_n 0, 1) := by decide +kernel
theorem d_N_lacks_1 : decode prog_13_method_68_code 1 = .ok (.getfield 85, 3) := by decide +kernel
theorem d_N_lacks_4 : decode prog_13_method_68_code 4 = .ok (.iload_n 1, 1) := by decide +kernel
theorem d_N_lacks_5 : decode prog_13_method_68_code 5 = .ok (.baload, 1) := by decide +kernel
theorem d_N_lacks_6 : decode prog_13_method_68_code 6 = .ok (.ifCond .ne 7, 3) := by decide +kernel
theorem d_N_lacks_9 : decode prog_13_method_68_code 9 = .ok (.iconst 1, 1) := by decide +kernel
theorem d_N_lacks_10 : decode prog_13_method_68_code 10 = .ok (.goto 38, 3) := by decide +kernel
theorem d_N_lacks_13 : decode prog_13_method_68_code 13 = .ok (.aload_n 0, 1) := by decide +kernel
theorem d_N_lacks_14 : decode prog_13_method_68_code 14 = .ok (.getfield 89, 3) := by decide +kernel
theorem d_N_lacks_17 : decode prog_13_method_68_code 17 = .ok (.iload_n 1, 1) := by decide +kernel
theorem d_N_lacks_18 : decode prog_13_method_68_code 18 = .ok (.iaload, 1) := by decide +kernel
theorem d_N_lacks_19 : decode prog_13_method_68_code 19 = .ok (.iload_n 2, 1) := by decide +kernel
theorem d_N_lacks_20 : decode prog_13_method_68_code 20 = .ok (.if_icmp .eq 7, 3) := by decide +kernel
theorem d_N_lacks_23 : decode prog_13_method_68_code 23 = .ok (.iconst 3, 1) := by decide +kernel
theorem d_N_lacks_24 : decode prog_13_method_68_code 24 = .ok (.goto 24, 3) := by decide +kernel
theorem d_N_lacks_27 : decode prog_13_method_68_code 27 = .ok (.iload_n 3, 1) := by decide +kernel
theorem d_N_lacks_28 : decode prog_13_method_68_code 28 = .ok (.iconst 0, 1) := by decide +kernel
theorem d_N_lacks_29 : decode prog_13_method_68_code 29 = .ok (.aload_n 0, 1) := by decide +kernel
theorem d_N_lacks_30 : decode prog_13_method_68_code 30 = .ok (.getfield 92, 3) := by decide +kernel
theorem d_N_lacks_33 : decode prog_13_method_68_code 33 = .ok (.iload_n 1, 1) := by decide +kernel
theorem d_N_lacks_34 : decode prog_13_method_68_code 34 = .ok (.iaload, 1) := by decide +kernel
theorem d_N_lacks_35 : decode prog_13_method_68_code 35 = .ok (.iconst 1, 1) := by decide +kernel
theorem d_N_lacks_36 : decode prog_13_method_68_code 36 = .ok (.isub, 1) := by decide +kernel
theorem d_N_lacks_37 : decode prog_13_method_68_code 37 = .ok (.invokestatic 101, 3) := by decide +kernel
theorem d_N_lacks_40 : decode prog_13_method_68_code 40 = .ok (.ifCond .eq 7, 3) := by decide +kernel
theorem d_N_lacks_43 : decode prog_13_method_68_code 43 = .ok (.iconst 0, 1) := by decide +kernel
theorem d_N_lacks_44 : decode prog_13_method_68_code 44 = .ok (.goto 4, 3) := by decide +kernel
theorem d_N_lacks_47 : decode prog_13_method_68_code 47 = .ok (.iconst 2, 1) := by decide +kernel
theorem d_N_lacks_48 : decode prog_13_method_68_code 48 = .ok (.ireturn, 1) := by decide +kernel
def b_N_lacks_48 (c0 : ra_Sp) (Z : ra_R) : ra_K := w_ir Z
def b_N_lacks_47 (c0 : ra_Sp) (Z : ra_R) : ra_K := w_c 2 <| (b_N_lacks_48 c0 Z)
def b_N_lacks_43 (c0 : ra_Sp) (Z : ra_R) : ra_K := w_c 0 <| (b_N_lacks_48 c0 Z)
def b_N_lacks_27 (c0 : ra_Sp) (Z : ra_R) : ra_K := w_il 3 <| w_c 0 <| w_al 0 <| w_gr 11 30 <| w_il 1 <| w_ald <| w_c 1 <| w_i2 (fun x y => x - y) <| w_cs c0 3 <| w_b1 (fun x => x = 0) (b_N_lacks_47 c0 Z) (b_N_lacks_43 c0 Z)
def b_N_lacks_23 (c0 : ra_Sp) (Z : ra_R) : ra_K := w_c 3 <| (b_N_lacks_48 c0 Z)
def b_N_lacks_13 (c0 : ra_Sp) (Z : ra_R) : ra_K := w_al 0 <| w_gr 11 29 <| w_il 1 <| w_ald <| w_il 2 <| w_b2 (fun x y => x = y) (b_N_lacks_27 c0 Z) (b_N_lacks_23 c0 Z)
def b_N_lacks_9 (c0 : ra_Sp) (Z : ra_R) : ra_K := w_c 1 <| (b_N_lacks_48 c0 Z)
def b_N_lacks_0 (c0 : ra_Sp) (Z : ra_R) : ra_K := w_al 0 <| w_gr 11 28 <| w_il 1 <| w_zld <| w_b1 (fun x => x = 0) (b_N_lacks_9 c0 Z) (b_N_lacks_13 c0 Z)
theorem o_N_lacks_48 {X : ra_X} {p : Program} {l : Launch} {e : Env} {s : State} {m : MethodId} {args : Array Value} {below : List Frame} {meth : Method} {c : Code} {Z : ra_R} {c0 : ra_Sp}  (h0 : ra_MOK l X mi_N_in c0) (F : ra_Fx X p rm_N_lacks s m args c prog_13_method_68_code 4 cn_N) (hr : meth.sig.returnType = (some .int)) (hlk : meth.locks = false) : ra_At X p l e rm_N_lacks s m args below meth c 4 (MQ below (ra_Qc X Z) args s 0 0 (ra_A X)) (b_N_lacks_48 c0 Z) 48 :=
  r_ireturn F hr hlk d_N_lacks_48
theorem o_N_lacks_47 {X : ra_X} {p : Program} {l : Launch} {e : Env} {s : State} {m : MethodId} {args : Array Value} {below : List Frame} {meth : Method} {c : Code} {Z : ra_R} {c0 : ra_Sp}  (h0 : ra_MOK l X mi_N_in c0) (F : ra_Fx X p rm_N_lacks s m args c prog_13_method_68_code 4 cn_N) (hr : meth.sig.returnType = (some .int)) (hlk : meth.locks = false) : ra_At X p l e rm_N_lacks s m args below meth c 4 (MQ below (ra_Qc X Z) args s 0 0 (ra_A X)) (b_N_lacks_47 c0 Z) 47 :=
  r_iconst F d_N_lacks_47 (by decide) <| (o_N_lacks_48 h0 F hr hlk)
theorem o_N_lacks_43 {X : ra_X} {p : Program} {l : Launch} {e : Env} {s : State} {m : MethodId} {args : Array Value} {below : List Frame} {meth : Method} {c : Code} {Z : ra_R} {c0 : ra_Sp}  (h0 : ra_MOK l X mi_N_in c0) (F : ra_Fx X p rm_N_lacks s m args c prog_13_method_68_code 4 cn_N) (hr : meth.sig.returnType = (some .int)) (hlk : meth.locks = false) : ra_At X p l e rm_N_lacks s m args below meth c 4 (MQ below (ra_Qc X Z) args s 0 0 (ra_A X)) (b_N_lacks_43 c0 Z) 43 :=
  r_iconst F d_N_lacks_43 (by decide) <| r_goto F d_N_lacks_44 (by decide) (o_N_lacks_48 h0 F hr hlk)
theorem o_N_lacks_27 {X : ra_X} {p : Program} {l : Launch} {e : Env} {s : State} {m : MethodId} {args : Array Value} {below : List Frame} {meth : Method} {c : Code} {Z : ra_R} {c0 : ra_Sp}  (h0 : ra_MOK l X mi_N_in c0) (F : ra_Fx X p rm_N_lacks s m args c prog_13_method_68_code 4 cn_N) (hr : meth.sig.returnType = (some .int)) (hlk : meth.locks = false) : ra_At X p l e rm_N_lacks s m args below meth c 4 (MQ below (ra_Qc X Z) args s 0 0 (ra_A X)) (b_N_lacks_27 c0 Z) 27 :=
  r_iload_n F d_N_lacks_27 rfl <| r_iconst F d_N_lacks_28 (by decide) <| r_aload_n F d_N_lacks_29 rfl <| r_getR F cg_N (j := 30) (by decide) rfl fl_N_92 d_N_lacks_30 <| r_iload_n F d_N_lacks_33 rfl <| r_iaload F d_N_lacks_34 <| r_iconst F d_N_lacks_35 (by decide) <| r_isub F d_N_lacks_36 <| r_callS F h0 (co_N_in (by decide +kernel) (by decide +kernel)) ⟨rfl, by decide +kernel⟩ ml_N_101 st_N_in d_N_lacks_37 <| r_if_eq F d_N_lacks_40 (by decide) (o_N_lacks_47 h0 F hr hlk) (o_N_lacks_43 h0 F hr hlk)
theorem o_N_lacks_23 {X : ra_X} {p : Program} {l : Launch} {e : Env} {s : State} {m : MethodId} {args : Array Value} {below : List Frame} {meth : Method} {c : Code} {Z : ra_R} {c0 : ra_Sp}  (h0 : ra_MOK l X mi_N_in c0) (F : ra_Fx X p rm_N_lacks s m args c prog_13_method_68_code 4 cn_N) (hr : meth.sig.returnType = (some .int)) (hlk : meth.locks = false) : ra_At X p l e rm_N_lacks s m args below meth c 4 (MQ below (ra_Qc X Z) args s 0 0 (ra_A X)) (b_N_lacks_23 c0 Z) 23 :=
  r_iconst F d_N_lacks_23 (by decide) <| r_goto F d_N_lacks_24 (by decide) (o_N_lacks_48 h0 F hr hlk)
theorem o_N_lacks_13 {X : ra_X} {p : Program} {l : Launch} {e : Env} {s : State} {m : MethodId} {args : Array Value} {below : List Frame} {meth : Method} {c : Code} {Z : ra_R} {c0 : ra_Sp}  (h0 : ra_MOK l X mi_N_in c0) (F : ra_Fx X p rm_N_lacks s m args c prog_13_method_68_code 4 cn_N) (hr : meth.sig.returnType = (some .int)) (hlk : meth.locks = false) : ra_At X p l e rm_N_lacks s m args below meth c 4 (MQ below (ra_Qc X Z) args s 0 0 (ra_A X)) (b_N_lacks_13 c0 Z) 13 :=
  r_aload_n F d_N_lacks_13 rfl <| r_getR F cg_N (j := 29) (by decide) rfl fl_N_89 d_N_lacks_14 <| r_iload_n F d_N_lacks_17 rfl <| r_iaload F d_N_lacks_18 <| r_iload_n F d_N_lacks_19 rfl <| r_icmp_eq F d_N_lacks_20 (by decide) (o_N_lacks_27 h0 F hr hlk) (o_N_lacks_23 h0 F hr hlk)
theorem o_N_lacks_9 {X : ra_X} {p : Program} {l : Launch} {e : Env} {s : State} {m : MethodId} {args : Array Value} {below : List Frame} {meth : Method} {c : Code} {Z : ra_R} {c0 : ra_Sp}  (h0 : ra_MOK l X mi_N_in c0) (F : ra_Fx X p rm_N_lacks s m args c prog_13_method_68_code 4 cn_N) (hr : meth.sig.returnType = (some .int)) (hlk : meth.locks = false) : ra_At X p l e rm_N_lacks s m args below meth c 4 (MQ below (ra_Qc X Z) args s 0 0 (ra_A X)) (b_N_lacks_9 c0 Z) 9 :=
  r_iconst F d_N_lacks_9 (by decide) <| r_goto F d_N_lacks_10 (by decide) (o_N_lacks_48 h0 F hr hlk)
theorem o_N_lacks_0 {X : ra_X} {p : Program} {l : Launch} {e : Env} {s : State} {m : MethodId} {args : Array Value} {below : List Frame} {meth : Method} {c : Code} {Z : ra_R} {c0 : ra_Sp}  (h0 : ra_MOK l X mi_N_in c0) (F : ra_Fx X p rm_N_lacks s m args c prog_13_method_68_code 4 cn_N) (hr : meth.sig.returnType = (some .int)) (hlk : meth.locks = false) : ra_At X p l e rm_N_lacks s m args below meth c 4 (MQ below (ra_Qc X Z) args s 0 0 (ra_A X)) (b_N_lacks_0 c0 Z) 0 :=
  r_aload_n F d_N_lacks_0 rfl <| r_getR F cg_N (j := 28) (by decide) rfl fl_N_85 d_N_lacks_1 <| r_iload_n F d_N_lacks_4 rfl <| r_baload F d_N_lacks_5 <| r_if_ne F d_N_lacks_6 (by decide) (o_N_lacks_13 h0 F hr hlk) (o_N_lacks_9 h0 F hr hlk)
theorem g_N_lacks {l : Launch} {X : ra_X} {c0 : ra_Sp}  (h0 : ra_MOK l X mi_N_in c0) (sp : ra_Sp) (ve : ∀ as σ Z, ra_c1 as = true → as.length = 4 → sp as σ Z → b_N_lacks_0 c0 Z (ra_pad 4 as) [] σ) : ra_MOK l X mi_N_lacks sp := by
  refine ra_enter (k := fun Z as σ => b_N_lacks_0 c0 Z) cn_N rfl (by decide +kernel) ⟨by decide +kernel, by decide +kernel⟩ (by decide +kernel) ?_ ve
  intro p e s m args below meth c Z as σ hsp F hr hlk
  exact o_N_lacks_0 h0 F hr hlk

theorem d_N_keep_0 : decode prog_13_method_69_code 0 = .ok (.aload_n 0, 1) := by decide +kernel
theorem d_N_keep_1 : decode prog_13_method_69_code 1 = .ok (.getfield 95, 3) := by decide +kernel
theorem d_N_keep_4 : decode prog_13_method_69_code 4 = .ok (.bipush 48, 2) := by decide +kernel
theorem d_N_keep_6 : decode prog_13_method_69_code 6 = .ok (.iload_n 1, 1) := by decide +kernel
theorem d_N_keep_7 : decode prog_13_method_69_code 7 = .ok (.imul, 1) := by decide +kernel
theorem d_N_keep_8 : decode prog_13_method_69_code 8 = .ok (.iload_n 2, 1) := by decide +kernel
theorem d_N_keep_9 : decode prog_13_method_69_code 9 = .ok (.iadd, 1) := by decide +kernel
theorem d_N_keep_10 : decode prog_13_method_69_code 10 = .ok (.aload_n 0, 1) := by decide +kernel
theorem d_N_keep_11 : decode prog_13_method_69_code 11 = .ok (.getfield 89, 3) := by decide +kernel
theorem d_N_keep_14 : decode prog_13_method_69_code 14 = .ok (.iload_n 1, 1) := by decide +kernel
theorem d_N_keep_15 : decode prog_13_method_69_code 15 = .ok (.iaload, 1) := by decide +kernel
theorem d_N_keep_16 : decode prog_13_method_69_code 16 = .ok (.ifCond .ne 8, 3) := by decide +kernel
theorem d_N_keep_19 : decode prog_13_method_69_code 19 = .ok (.iload_n 3, 1) := by decide +kernel
theorem d_N_keep_20 : decode prog_13_method_69_code 20 = .ok (.i2b, 1) := by decide +kernel
theorem d_N_keep_21 : decode prog_13_method_69_code 21 = .ok (.goto 19, 3) := by decide +kernel
theorem d_N_keep_24 : decode prog_13_method_69_code 24 = .ok (.aload_n 0, 1) := by decide +kernel
theorem d_N_keep_25 : decode prog_13_method_69_code 25 = .ok (.getfield 89, 3) := by decide +kernel
theorem d_N_keep_28 : decode prog_13_method_69_code 28 = .ok (.iload_n 1, 1) := by decide +kernel
theorem d_N_keep_29 : decode prog_13_method_69_code 29 = .ok (.iaload, 1) := by decide +kernel
theorem d_N_keep_30 : decode prog_13_method_69_code 30 = .ok (.iconst 1, 1) := by decide +kernel
theorem d_N_keep_31 : decode prog_13_method_69_code 31 = .ok (.if_icmp .ne 8, 3) := by decide +kernel
theorem d_N_keep_34 : decode prog_13_method_69_code 34 = .ok (.iload_n 3, 1) := by decide +kernel
theorem d_N_keep_35 : decode prog_13_method_69_code 35 = .ok (.i2s, 1) := by decide +kernel
theorem d_N_keep_36 : decode prog_13_method_69_code 36 = .ok (.goto 4, 3) := by decide +kernel
theorem d_N_keep_39 : decode prog_13_method_69_code 39 = .ok (.iload_n 3, 1) := by decide +kernel
theorem d_N_keep_40 : decode prog_13_method_69_code 40 = .ok (.iastore, 1) := by decide +kernel
theorem d_N_keep_41 : decode prog_13_method_69_code 41 = .ok (.return_, 1) := by decide +kernel
def b_N_keep_40 (Z : ra_R) : ra_K := w_ast <| w_vr Z
def b_N_keep_39 (Z : ra_R) : ra_K := w_il 3 <| (b_N_keep_40 Z)
def b_N_keep_34 (Z : ra_R) : ra_K := w_il 3 <| w_i1 (fun x => x.toInt16.toInt32) <| (b_N_keep_40 Z)
def b_N_keep_24 (Z : ra_R) : ra_K := w_al 0 <| w_gr 11 29 <| w_il 1 <| w_ald <| w_c 1 <| w_b2 (fun x y => x = y) (b_N_keep_34 Z) (b_N_keep_39 Z)
def b_N_keep_19 (Z : ra_R) : ra_K := w_il 3 <| w_i1 (fun x => x.toInt8.toInt32) <| (b_N_keep_40 Z)
def b_N_keep_0 (Z : ra_R) : ra_K := w_al 0 <| w_gr 11 31 <| w_c 48 <| w_il 1 <| w_i2 (fun x y => x * y) <| w_il 2 <| w_i2 (fun x y => x + y) <| w_al 0 <| w_gr 11 29 <| w_il 1 <| w_ald <| w_b1 (fun x => x = 0) (b_N_keep_19 Z) (b_N_keep_24 Z)
theorem o_N_keep_40 {X : ra_X} {p : Program} {l : Launch} {e : Env} {s : State} {m : MethodId} {args : Array Value} {below : List Frame} {meth : Method} {c : Code} {Z : ra_R}  (F : ra_Fx X p rm_N_keep s m args c prog_13_method_69_code 4 cn_N) (hr : meth.sig.returnType = none) (hlk : meth.locks = false) : ra_At X p l e rm_N_keep s m args below meth c 4 (MQ below (ra_Qc X Z) args s 0 0 (ra_A X)) (b_N_keep_40 Z) 40 :=
  r_iastore F d_N_keep_40 <| r_return F hr hlk d_N_keep_41
theorem o_N_keep_39 {X : ra_X} {p : Program} {l : Launch} {e : Env} {s : State} {m : MethodId} {args : Array Value} {below : List Frame} {meth : Method} {c : Code} {Z : ra_R}  (F : ra_Fx X p rm_N_keep s m args c prog_13_method_69_code 4 cn_N) (hr : meth.sig.returnType = none) (hlk : meth.locks = false) : ra_At X p l e rm_N_keep s m args below meth c 4 (MQ below (ra_Qc X Z) args s 0 0 (ra_A X)) (b_N_keep_39 Z) 39 :=
  r_iload_n F d_N_keep_39 rfl <| (o_N_keep_40 F hr hlk)
theorem o_N_keep_34 {X : ra_X} {p : Program} {l : Launch} {e : Env} {s : State} {m : MethodId} {args : Array Value} {below : List Frame} {meth : Method} {c : Code} {Z : ra_R}  (F : ra_Fx X p rm_N_keep s m args c prog_13_method_69_code 4 cn_N) (hr : meth.sig.returnType = none) (hlk : meth.locks = false) : ra_At X p l e rm_N_keep s m args below meth c 4 (MQ below (ra_Qc X Z) args s 0 0 (ra_A X)) (b_N_keep_34 Z) 34 :=
  r_iload_n F d_N_keep_34 rfl <| r_i2s F d_N_keep_35 <| r_goto F d_N_keep_36 (by decide) (o_N_keep_40 F hr hlk)
theorem o_N_keep_24 {X : ra_X} {p : Program} {l : Launch} {e : Env} {s : State} {m : MethodId} {args : Array Value} {below : List Frame} {meth : Method} {c : Code} {Z : ra_R}  (F : ra_Fx X p rm_N_keep s m args c prog_13_method_69_code 4 cn_N) (hr : meth.sig.returnType = none) (hlk : meth.locks = false) : ra_At X p l e rm_N_keep s m args below meth c 4 (MQ below (ra_Qc X Z) args s 0 0 (ra_A X)) (b_N_keep_24 Z) 24 :=
  r_aload_n F d_N_keep_24 rfl <| r_getR F cg_N (j := 29) (by decide) rfl fl_N_89 d_N_keep_25 <| r_iload_n F d_N_keep_28 rfl <| r_iaload F d_N_keep_29 <| r_iconst F d_N_keep_30 (by decide) <| r_icmp_ne F d_N_keep_31 (by decide) (o_N_keep_39 F hr hlk) (o_N_keep_34 F hr hlk)
theorem o_N_keep_19 {X : ra_X} {p : Program} {l : Launch} {e : Env} {s : State} {m : MethodId} {args : Array Value} {below : List Frame} {meth : Method} {c : Code} {Z : ra_R}  (F : ra_Fx X p rm_N_keep s m args c prog_13_method_69_code 4 cn_N) (hr : meth.sig.returnType = none) (hlk : meth.locks = false) : ra_At X p l e rm_N_keep s m args below meth c 4 (MQ below (ra_Qc X Z) args s 0 0 (ra_A X)) (b_N_keep_19 Z) 19 :=
  r_iload_n F d_N_keep_19 rfl <| r_i2b F d_N_keep_20 <| r_goto F d_N_keep_21 (by decide) (o_N_keep_40 F hr hlk)
theorem o_N_keep_0 {X : ra_X} {p : Program} {l : Launch} {e : Env} {s : State} {m : MethodId} {args : Array Value} {below : List Frame} {meth : Method} {c : Code} {Z : ra_R}  (F : ra_Fx X p rm_N_keep s m args c prog_13_method_69_code 4 cn_N) (hr : meth.sig.returnType = none) (hlk : meth.locks = false) : ra_At X p l e rm_N_keep s m args below meth c 4 (MQ below (ra_Qc X Z) args s 0 0 (ra_A X)) (b_N_keep_0 Z) 0 :=
  r_aload_n F d_N_keep_0 rfl <| r_getR F cg_N (j := 31) (by decide) rfl fl_N_95 d_N_keep_1 <| r_bipush F d_N_keep_4 (by decide) <| r_iload_n F d_N_keep_6 rfl <| r_imul F d_N_keep_7 <| r_iload_n F d_N_keep_8 rfl <| r_iadd F d_N_keep_9 <| r_aload_n F d_N_keep_10 rfl <| r_getR F cg_N (j := 29) (by decide) rfl fl_N_89 d_N_keep_11 <| r_iload_n F d_N_keep_14 rfl <| r_iaload F d_N_keep_15 <| r_if_ne F d_N_keep_16 (by decide) (o_N_keep_24 F hr hlk) (o_N_keep_19 F hr hlk)
theorem g_N_keep {l : Launch} {X : ra_X}  (sp : ra_Sp) (ve : ∀ as σ Z, ra_c1 as = true → as.length = 4 → sp as σ Z → b_N_keep_0 Z (ra_pad 4 as) [] σ) : ra_MOK l X mi_N_keep sp := by
  refine ra_enter (k := fun Z as σ => b_N_keep_0 Z) cn_N rfl (by decide +kernel) ⟨by decide +kernel, by decide +kernel⟩ (by decide +kernel) ?_ ve
  intro p e s m args below meth c Z as σ hsp F hr hlk
  exact o_N_keep_0 F hr hlk

theorem d_N_put_0 : decode prog_13_method_70_code 0 = .ok (.iload_n 1, 1) := by decide +kernel
theorem d_N_put_1 : decode prog_13_method_70_code 1 = .ok (.invokestatic 153, 3) := by decide +kernel
theorem d_N_put_4 : decode prog_13_method_70_code 4 = .ok (.ifCond .eq 12, 3) := by decide +kernel
theorem d_N_put_7 : decode prog_13_method_70_code 7 = .ok (.iload_n 2, 1) := by decide +kernel
theorem d_N_put_8 : decode prog_13_method_70_code 8 = .ok (.iconst 0, 1) := by decide +kernel
theorem d_N_put_9 : decode prog_13_method_70_code 9 = .ok (.iconst 2, 1) := by decide +kernel
theorem d_N_put_10 : decode prog_13_method_70_code 10 = .ok (.invokestatic 101, 3) := by decide +kernel
theorem d_N_put_13 : decode prog_13_method_70_code 13 = .ok (.ifCond .ne 6, 3) := by decide +kernel
theorem d_N_put_16 : decode prog_13_method_70_code 16 = .ok (.bipush (-2), 2) := by decide +kernel
theorem d_N_put_18 : decode prog_13_method_70_code 18 = .ok (.ireturn, 1) := by decide +kernel
theorem d_N_put_19 : decode prog_13_method_70_code 19 = .ok (.aload_n 0, 1) := by decide +kernel
theorem d_N_put_20 : decode prog_13_method_70_code 20 = .ok (.iload_n 1, 1) := by decide +kernel
theorem d_N_put_21 : decode prog_13_method_70_code 21 = .ok (.iload_n 2, 1) := by decide +kernel
theorem d_N_put_22 : decode prog_13_method_70_code 22 = .ok (.iload_n 3, 1) := by decide +kernel
theorem d_N_put_23 : decode prog_13_method_70_code 23 = .ok (.invokevirtual 233, 3) := by decide +kernel
theorem d_N_put_26 : decode prog_13_method_70_code 26 = .ok (.istore 5, 2) := by decide +kernel
theorem d_N_put_28 : decode prog_13_method_70_code 28 = .ok (.iload 5, 2) := by decide +kernel
theorem d_N_put_30 : decode prog_13_method_70_code 30 = .ok (.ifCond .le 10, 3) := by decide +kernel
theorem d_N_put_33 : decode prog_13_method_70_code 33 = .ok (.aload_n 0, 1) := by decide +kernel
theorem d_N_put_34 : decode prog_13_method_70_code 34 = .ok (.iload 5, 2) := by decide +kernel
theorem d_N_put_36 : decode prog_13_method_70_code 36 = .ok (.invokevirtual 156, 3) := by decide +kernel
theorem d_N_put_39 : decode prog_13_method_70_code 39 = .ok (.ireturn, 1) := by decide +kernel
theorem d_N_put_40 : decode prog_13_method_70_code 40 = .ok (.aload_n 0, 1) := by decide +kernel
theorem d_N_put_41 : decode prog_13_method_70_code 41 = .ok (.iload_n 1, 1) := by decide +kernel
theorem d_N_put_42 : decode prog_13_method_70_code 42 = .ok (.iload_n 3, 1) := by decide +kernel
theorem d_N_put_43 : decode prog_13_method_70_code 43 = .ok (.iload 4, 2) := by decide +kernel
theorem d_N_put_45 : decode prog_13_method_70_code 45 = .ok (.invokevirtual 236, 3) := by decide +kernel
theorem d_N_put_48 : decode prog_13_method_70_code 48 = .ok (.iconst 1, 1) := by decide +kernel
theorem d_N_put_49 : decode prog_13_method_70_code 49 = .ok (.ireturn, 1) := by decide +kernel
def b_N_put_40 (c0 c1 c2 c3 c4 : ra_Sp) (Z : ra_R) : ra_K := w_al 0 <| w_il 1 <| w_il 3 <| w_il 4 <| w_cv c4 4 11 <| w_c 1 <| w_ir Z
def b_N_put_33 (c0 c1 c2 c3 c4 : ra_Sp) (Z : ra_R) : ra_K := w_al 0 <| w_il 5 <| w_cv c3 2 11 <| w_ir Z
def b_N_put_19 (c0 c1 c2 c3 c4 : ra_Sp) (Z : ra_R) : ra_K := w_al 0 <| w_il 1 <| w_il 2 <| w_il 3 <| w_cv c2 4 11 <| w_is 5 <| w_il 5 <| w_b1 (fun x => x ≤ 0) (b_N_put_40 c0 c1 c2 c3 c4 Z) (b_N_put_33 c0 c1 c2 c3 c4 Z)
def b_N_put_16 (c0 c1 c2 c3 c4 : ra_Sp) (Z : ra_R) : ra_K := w_c (-2) <| w_ir Z
def b_N_put_7 (c0 c1 c2 c3 c4 : ra_Sp) (Z : ra_R) : ra_K := w_il 2 <| w_c 0 <| w_c 2 <| w_cs c1 3 <| w_b1 (fun x => x = 0) (b_N_put_16 c0 c1 c2 c3 c4 Z) (b_N_put_19 c0 c1 c2 c3 c4 Z)
def b_N_put_0 (c0 c1 c2 c3 c4 : ra_Sp) (Z : ra_R) : ra_K := w_il 1 <| w_cs c0 1 <| w_b1 (fun x => x = 0) (b_N_put_16 c0 c1 c2 c3 c4 Z) (b_N_put_7 c0 c1 c2 c3 c4 Z)
theorem o_N_put_40 {X : ra_X} {p : Program} {l : Launch} {e : Env} {s : State} {m : MethodId} {args : Array Value} {below : List Frame} {meth : Method} {c : Code} {Z : ra_R} {c0 c1 c2 c3 c4 : ra_Sp}  (h0 : ra_MOK l X mi_N_isSheet c0) (h1 : ra_MOK l X mi_N_in c1) (h2 : ra_MOK l X mi_N_lacks c2) (h3 : ra_MOK l X mi_N_meets c3) (h4 : ra_MOK l X mi_N_keep c4) (F : ra_Fx X p rm_N_put s m args c prog_13_method_70_code 6 cn_N) (hr : meth.sig.returnType = (some .int)) (hlk : meth.locks = false) : ra_At X p l e rm_N_put s m args below meth c 6 (MQ below (ra_Qc X Z) args s 0 0 (ra_A X)) (b_N_put_40 c0 c1 c2 c3 c4 Z) 40 :=
  r_aload_n F d_N_put_40 rfl <| r_iload_n F d_N_put_41 rfl <| r_iload_n F d_N_put_42 rfl <| r_iload F d_N_put_43 <| r_callV F h4 (co_N_keep (by decide +kernel) (by decide +kernel)) ⟨rfl, by decide +kernel⟩ ⟨rfl, by decide⟩ ml_N_236 im_N_keep se_N_keep d_N_put_45 <| r_iconst F d_N_put_48 (by decide) <| r_ireturn F hr hlk d_N_put_49
theorem o_N_put_33 {X : ra_X} {p : Program} {l : Launch} {e : Env} {s : State} {m : MethodId} {args : Array Value} {below : List Frame} {meth : Method} {c : Code} {Z : ra_R} {c0 c1 c2 c3 c4 : ra_Sp}  (h0 : ra_MOK l X mi_N_isSheet c0) (h1 : ra_MOK l X mi_N_in c1) (h2 : ra_MOK l X mi_N_lacks c2) (h3 : ra_MOK l X mi_N_meets c3) (h4 : ra_MOK l X mi_N_keep c4) (F : ra_Fx X p rm_N_put s m args c prog_13_method_70_code 6 cn_N) (hr : meth.sig.returnType = (some .int)) (hlk : meth.locks = false) : ra_At X p l e rm_N_put s m args below meth c 6 (MQ below (ra_Qc X Z) args s 0 0 (ra_A X)) (b_N_put_33 c0 c1 c2 c3 c4 Z) 33 :=
  r_aload_n F d_N_put_33 rfl <| r_iload F d_N_put_34 <| r_callV F h3 (co_N_meets (by decide +kernel) (by decide +kernel)) ⟨rfl, by decide +kernel⟩ ⟨rfl, by decide⟩ ml_N_156 im_N_meets se_N_meets d_N_put_36 <| r_ireturn F hr hlk d_N_put_39
theorem o_N_put_19 {X : ra_X} {p : Program} {l : Launch} {e : Env} {s : State} {m : MethodId} {args : Array Value} {below : List Frame} {meth : Method} {c : Code} {Z : ra_R} {c0 c1 c2 c3 c4 : ra_Sp}  (h0 : ra_MOK l X mi_N_isSheet c0) (h1 : ra_MOK l X mi_N_in c1) (h2 : ra_MOK l X mi_N_lacks c2) (h3 : ra_MOK l X mi_N_meets c3) (h4 : ra_MOK l X mi_N_keep c4) (F : ra_Fx X p rm_N_put s m args c prog_13_method_70_code 6 cn_N) (hr : meth.sig.returnType = (some .int)) (hlk : meth.locks = false) : ra_At X p l e rm_N_put s m args below meth c 6 (MQ below (ra_Qc X Z) args s 0 0 (ra_A X)) (b_N_put_19 c0 c1 c2 c3 c4 Z) 19 :=
  r_aload_n F d_N_put_19 rfl <| r_iload_n F d_N_put_20 rfl <| r_iload_n F d_N_put_21 rfl <| r_iload_n F d_N_put_22 rfl <| r_callV F h2 (co_N_lacks (by decide +kernel) (by decide +kernel)) ⟨rfl, by decide +kernel⟩ ⟨rfl, by decide⟩ ml_N_233 im_N_lacks se_N_lacks d_N_put_23 <| r_istore F d_N_put_26 (by decide) <| r_iload F d_N_put_28 <| r_if_le F d_N_put_30 (by decide) (o_N_put_40 h0 h1 h2 h3 h4 F hr hlk) (o_N_put_33 h0 h1 h2 h3 h4 F hr hlk)
theorem o_N_put_16 {X : ra_X} {p : Program} {l : Launch} {e : Env} {s : State} {m : MethodId} {args : Array Value} {below : List Frame} {meth : Method} {c : Code} {Z : ra_R} {c0 c1 c2 c3 c4 : ra_Sp}  (h0 : ra_MOK l X mi_N_isSheet c0) (h1 : ra_MOK l X mi_N_in c1) (h2 : ra_MOK l X mi_N_lacks c2) (h3 : ra_MOK l X mi_N_meets c3) (h4 : ra_MOK l X mi_N_keep c4) (F : ra_Fx X p rm_N_put s m args c prog_13_method_70_code 6 cn_N) (hr : meth.sig.returnType = (some .int)) (hlk : meth.locks = false) : ra_At X p l e rm_N_put s m args below meth c 6 (MQ below (ra_Qc X Z) args s 0 0 (ra_A X)) (b_N_put_16 c0 c1 c2 c3 c4 Z) 16 :=
  r_bipush F d_N_put_16 (by decide) <| r_ireturn F hr hlk d_N_put_18
theorem o_N_put_7 {X : ra_X} {p : Program} {l : Launch} {e : Env} {s : State} {m : MethodId} {args : Array Value} {below : List Frame} {meth : Method} {c : Code} {Z : ra_R} {c0 c1 c2 c3 c4 : ra_Sp}  (h0 : ra_MOK l X mi_N_isSheet c0) (h1 : ra_MOK l X mi_N_in c1) (h2 : ra_MOK l X mi_N_lacks c2) (h3 : ra_MOK l X mi_N_meets c3) (h4 : ra_MOK l X mi_N_keep c4) (F : ra_Fx X p rm_N_put s m args c prog_13_method_70_code 6 cn_N) (hr : meth.sig.returnType = (some .int)) (hlk : meth.locks = false) : ra_At X p l e rm_N_put s m args below meth c 6 (MQ below (ra_Qc X Z) args s 0 0 (ra_A X)) (b_N_put_7 c0 c1 c2 c3 c4 Z) 7 :=
  r_iload_n F d_N_put_7 rfl <| r_iconst F d_N_put_8 (by decide) <| r_iconst F d_N_put_9 (by decide) <| r_callS F h1 (co_N_in (by decide +kernel) (by decide +kernel)) ⟨rfl, by decide +kernel⟩ ml_N_101 st_N_in d_N_put_10 <| r_if_ne F d_N_put_13 (by decide) (o_N_put_19 h0 h1 h2 h3 h4 F hr hlk) (o_N_put_16 h0 h1 h2 h3 h4 F hr hlk)
theorem o_N_put_0 {X : ra_X} {p : Program} {l : Launch} {e : Env} {s : State} {m : MethodId} {args : Array Value} {below : List Frame} {meth : Method} {c : Code} {Z : ra_R} {c0 c1 c2 c3 c4 : ra_Sp}  (h0 : ra_MOK l X mi_N_isSheet c0) (h1 : ra_MOK l X mi_N_in c1) (h2 : ra_MOK l X mi_N_lacks c2) (h3 : ra_MOK l X mi_N_meets c3) (h4 : ra_MOK l X mi_N_keep c4) (F : ra_Fx X p rm_N_put s m args c prog_13_method_70_code 6 cn_N) (hr : meth.sig.returnType = (some .int)) (hlk : meth.locks = false) : ra_At X p l e rm_N_put s m args below meth c 6 (MQ below (ra_Qc X Z) args s 0 0 (ra_A X)) (b_N_put_0 c0 c1 c2 c3 c4 Z) 0 :=
  r_iload_n F d_N_put_0 rfl <| r_callS F h0 (co_N_isSheet (by decide +kernel) (by decide +kernel)) ⟨rfl, by decide +kernel⟩ ml_N_153 st_N_isSheet d_N_put_1 <| r_if_eq F d_N_put_4 (by decide) (o_N_put_16 h0 h1 h2 h3 h4 F hr hlk) (o_N_put_7 h0 h1 h2 h3 h4 F hr hlk)
theorem g_N_put {l : Launch} {X : ra_X} {c0 c1 c2 c3 c4 : ra_Sp}  (h0 : ra_MOK l X mi_N_isSheet c0) (h1 : ra_MOK l X mi_N_in c1) (h2 : ra_MOK l X mi_N_lacks c2) (h3 : ra_MOK l X mi_N_meets c3) (h4 : ra_MOK l X mi_N_keep c4) (sp : ra_Sp) (ve : ∀ as σ Z, ra_c1 as = true → as.length = 5 → sp as σ Z → b_N_put_0 c0 c1 c2 c3 c4 Z (ra_pad 6 as) [] σ) : ra_MOK l X mi_N_put sp := by
  refine ra_enter (k := fun Z as σ => b_N_put_0 c0 c1 c2 c3 c4 Z) cn_N rfl (by decide +kernel) ⟨by decide +kernel, by decide +kernel⟩ (by decide +kernel) ?_ ve
  intro p e s m args below meth c Z as σ hsp F hr hlk
  exact o_N_put_0 h0 h1 h2 h3 h4 F hr hlk

theorem d_N_get_0 : decode prog_13_method_71_code 0 = .ok (.iload_n 1, 1) := by decide +kernel
theorem d_N_get_1 : decode prog_13_method_71_code 1 = .ok (.invokestatic 153, 3) := by decide +kernel
theorem d_N_get_4 : decode prog_13_method_71_code 4 = .ok (.ifCond .eq 12, 3) := by decide +kernel
theorem d_N_get_7 : decode prog_13_method_71_code 7 = .ok (.iload_n 2, 1) := by decide +kernel
theorem d_N_get_8 : decode prog_13_method_71_code 8 = .ok (.iconst 0, 1) := by decide +kernel
theorem d_N_get_9 : decode prog_13_method_71_code 9 = .ok (.iconst 2, 1) := by decide +kernel
theorem d_N_get_10 : decode prog_13_method_71_code 10 = .ok (.invokestatic 101, 3) := by decide +kernel
theorem d_N_get_13 : decode prog_13_method_71_code 13 = .ok (.ifCond .ne 6, 3) := by decide +kernel
theorem d_N_get_16 : decode prog_13_method_71_code 16 = .ok (.ldc 240, 2) := by decide +kernel
theorem d_N_get_18 : decode prog_13_method_71_code 18 = .ok (.ireturn, 1) := by decide +kernel
theorem d_N_get_19 : decode prog_13_method_71_code 19 = .ok (.aload_n 0, 1) := by decide +kernel
theorem d_N_get_20 : decode prog_13_method_71_code 20 = .ok (.iload_n 1, 1) := by decide +kernel
theorem d_N_get_21 : decode prog_13_method_71_code 21 = .ok (.iload_n 2, 1) := by decide +kernel
theorem d_N_get_22 : decode prog_13_method_71_code 22 = .ok (.iload_n 3, 1) := by decide +kernel
theorem d_N_get_23 : decode prog_13_method_71_code 23 = .ok (.invokevirtual 233, 3) := by decide +kernel
theorem d_N_get_26 : decode prog_13_method_71_code 26 = .ok (.istore 4, 2) := by decide +kernel
theorem d_N_get_28 : decode prog_13_method_71_code 28 = .ok (.iload 4, 2) := by decide +kernel
theorem d_N_get_30 : decode prog_13_method_71_code 30 = .ok (.ifCond .le 12, 3) := by decide +kernel
theorem d_N_get_33 : decode prog_13_method_71_code 33 = .ok (.aload_n 0, 1) := by decide +kernel
theorem d_N_get_34 : decode prog_13_method_71_code 34 = .ok (.iload 4, 2) := by decide +kernel
theorem d_N_get_36 : decode prog_13_method_71_code 36 = .ok (.putfield 230, 3) := by decide +kernel
theorem d_N_get_39 : decode prog_13_method_71_code 39 = .ok (.ldc 240, 2) := by decide +kernel
theorem d_N_get_41 : decode prog_13_method_71_code 41 = .ok (.ireturn, 1) := by decide +kernel
theorem d_N_get_42 : decode prog_13_method_71_code 42 = .ok (.aload_n 0, 1) := by decide +kernel
theorem d_N_get_43 : decode prog_13_method_71_code 43 = .ok (.getfield 95, 3) := by decide +kernel
theorem d_N_get_46 : decode prog_13_method_71_code 46 = .ok (.bipush 48, 2) := by decide +kernel
theorem d_N_get_48 : decode prog_13_method_71_code 48 = .ok (.iload_n 1, 1) := by decide +kernel
theorem d_N_get_49 : decode prog_13_method_71_code 49 = .ok (.imul, 1) := by decide +kernel
theorem d_N_get_50 : decode prog_13_method_71_code 50 = .ok (.iload_n 3, 1) := by decide +kernel
theorem d_N_get_51 : decode prog_13_method_71_code 51 = .ok (.iadd, 1) := by decide +kernel
theorem d_N_get_52 : decode prog_13_method_71_code 52 = .ok (.iaload, 1) := by decide +kernel
theorem d_N_get_53 : decode prog_13_method_71_code 53 = .ok (.ireturn, 1) := by decide +kernel
def b_N_get_42 (c0 c1 c2 : ra_Sp) (Z : ra_R) : ra_K := w_al 0 <| w_gr 11 31 <| w_c 48 <| w_il 1 <| w_i2 (fun x y => x * y) <| w_il 3 <| w_i2 (fun x y => x + y) <| w_ald <| w_ir Z
def b_N_get_33 (c0 c1 c2 : ra_Sp) (Z : ra_R) : ra_K := w_al 0 <| w_il 4 <| w_pi 11 33 <| w_c (-2147483648) <| w_ir Z
def b_N_get_19 (c0 c1 c2 : ra_Sp) (Z : ra_R) : ra_K := w_al 0 <| w_il 1 <| w_il 2 <| w_il 3 <| w_cv c2 4 11 <| w_is 4 <| w_il 4 <| w_b1 (fun x => x ≤ 0) (b_N_get_42 c0 c1 c2 Z) (b_N_get_33 c0 c1 c2 Z)
def b_N_get_16 (c0 c1 c2 : ra_Sp) (Z : ra_R) : ra_K := w_c (-2147483648) <| w_ir Z
def b_N_get_7 (c0 c1 c2 : ra_Sp) (Z : ra_R) : ra_K := w_il 2 <| w_c 0 <| w_c 2 <| w_cs c1 3 <| w_b1 (fun x => x = 0) (b_N_get_16 c0 c1 c2 Z) (b_N_get_19 c0 c1 c2 Z)
def b_N_get_0 (c0 c1 c2 : ra_Sp) (Z : ra_R) : ra_K := w_il 1 <| w_cs c0 1 <| w_b1 (fun x => x = 0) (b_N_get_16 c0 c1 c2 Z) (b_N_get_7 c0 c1 c2 Z)
theorem o_N_get_42 {X : ra_X} {p : Program} {l : Launch} {e : Env} {s : State} {m : MethodId} {args : Array Value} {below : List Frame} {meth : Method} {c : Code} {Z : ra_R} {c0 c1 c2 : ra_Sp}  (h0 : ra_MOK l X mi_N_isSheet c0) (h1 : ra_MOK l X mi_N_in c1) (h2 : ra_MOK l X mi_N_lacks c2) (F : ra_Fx X p rm_N_get s m args c prog_13_method_71_code 5 cn_N) (hr : meth.sig.returnType = (some .int)) (hlk : meth.locks = false) : ra_At X p l e rm_N_get s m args below meth c 5 (MQ below (ra_Qc X Z) args s 0 0 (ra_A X)) (b_N_get_42 c0 c1 c2 Z) 42 :=
  r_aload_n F d_N_get_42 rfl <| r_getR F cg_N (j := 31) (by decide) rfl fl_N_95 d_N_get_43 <| r_bipush F d_N_get_46 (by decide) <| r_iload_n F d_N_get_48 rfl <| r_imul F d_N_get_49 <| r_iload_n F d_N_get_50 rfl <| r_iadd F d_N_get_51 <| r_iaload F d_N_get_52 <| r_ireturn F hr hlk d_N_get_53
theorem o_N_get_33 {X : ra_X} {p : Program} {l : Launch} {e : Env} {s : State} {m : MethodId} {args : Array Value} {below : List Frame} {meth : Method} {c : Code} {Z : ra_R} {c0 c1 c2 : ra_Sp}  (h0 : ra_MOK l X mi_N_isSheet c0) (h1 : ra_MOK l X mi_N_in c1) (h2 : ra_MOK l X mi_N_lacks c2) (F : ra_Fx X p rm_N_get s m args c prog_13_method_71_code 5 cn_N) (hr : meth.sig.returnType = (some .int)) (hlk : meth.locks = false) : ra_At X p l e rm_N_get s m args below meth c 5 (MQ below (ra_Qc X Z) args s 0 0 (ra_A X)) (b_N_get_33 c0 c1 c2 Z) 33 :=
  r_aload_n F d_N_get_33 rfl <| r_iload F d_N_get_34 <| r_putI F cg_N (j := 33) (by decide) rfl rfl rfl fl_N_230 d_N_get_36 <| r_ldc F d_N_get_39 kc_N_240 <| r_ireturn F hr hlk d_N_get_41
theorem o_N_get_19 {X : ra_X} {p : Program} {l : Launch} {e : Env} {s : State} {m : MethodId} {args : Array Value} {below : List Frame} {meth : Method} {c : Code} {Z : ra_R} {c0 c1 c2 : ra_Sp}  (h0 : ra_MOK l X mi_N_isSheet c0) (h1 : ra_MOK l X mi_N_in c1) (h2 : ra_MOK l X mi_N_lacks c2) (F : ra_Fx X p rm_N_get s m args c prog_13_method_71_code 5 cn_N) (hr : meth.sig.returnType = (some .int)) (hlk : meth.locks = false) : ra_At X p l e rm_N_get s m args below meth c 5 (MQ below (ra_Qc X Z) args s 0 0 (ra_A X)) (b_N_get_19 c0 c1 c2 Z) 19 :=
  r_aload_n F d_N_get_19 rfl <| r_iload_n F d_N_get_20 rfl <| r_iload_n F d_N_get_21 rfl <| r_iload_n F d_N_get_22 rfl <| r_callV F h2 (co_N_lacks (by decide +kernel) (by decide +kernel)) ⟨rfl, by decide +kernel⟩ ⟨rfl, by decide⟩ ml_N_233 im_N_lacks se_N_lacks d_N_get_23 <| r_istore F d_N_get_26 (by decide) <| r_iload F d_N_get_28 <| r_if_le F d_N_get_30 (by decide) (o_N_get_42 h0 h1 h2 F hr hlk) (o_N_get_33 h0 h1 h2 F hr hlk)
theorem o_N_get_16 {X : ra_X} {p : Program} {l : Launch} {e : Env} {s : State} {m : MethodId} {args : Array Value} {below : List Frame} {meth : Method} {c : Code} {Z : ra_R} {c0 c1 c2 : ra_Sp}  (h0 : ra_MOK l X mi_N_isSheet c0) (h1 : ra_MOK l X mi_N_in c1) (h2 : ra_MOK l X mi_N_lacks c2) (F : ra_Fx X p rm_N_get s m args c prog_13_method_71_code 5 cn_N) (hr : meth.sig.returnType = (some .int)) (hlk : meth.locks = false) : ra_At X p l e rm_N_get s m args below meth c 5 (MQ below (ra_Qc X Z) args s 0 0 (ra_A X)) (b_N_get_16 c0 c1 c2 Z) 16 :=
  r_ldc F d_N_get_16 kc_N_240 <| r_ireturn F hr hlk d_N_get_18
theorem o_N_get_7 {X : ra_X} {p : Program} {l : Launch} {e : Env} {s : State} {m : MethodId} {args : Array Value} {below : List Frame} {meth : Method} {c : Code} {Z : ra_R} {c0 c1 c2 : ra_Sp}  (h0 : ra_MOK l X mi_N_isSheet c0) (h1 : ra_MOK l X mi_N_in c1) (h2 : ra_MOK l X mi_N_lacks c2) (F : ra_Fx X p rm_N_get s m args c prog_13_method_71_code 5 cn_N) (hr : meth.sig.returnType = (some .int)) (hlk : meth.locks = false) : ra_At X p l e rm_N_get s m args below meth c 5 (MQ below (ra_Qc X Z) args s 0 0 (ra_A X)) (b_N_get_7 c0 c1 c2 Z) 7 :=
  r_iload_n F d_N_get_7 rfl <| r_iconst F d_N_get_8 (by decide) <| r_iconst F d_N_get_9 (by decide) <| r_callS F h1 (co_N_in (by decide +kernel) (by decide +kernel)) ⟨rfl, by decide +kernel⟩ ml_N_101 st_N_in d_N_get_10 <| r_if_ne F d_N_get_13 (by decide) (o_N_get_19 h0 h1 h2 F hr hlk) (o_N_get_16 h0 h1 h2 F hr hlk)
theorem o_N_get_0 {X : ra_X} {p : Program} {l : Launch} {e : Env} {s : State} {m : MethodId} {args : Array Value} {below : List Frame} {meth : Method} {c : Code} {Z : ra_R} {c0 c1 c2 : ra_Sp}  (h0 : ra_MOK l X mi_N_isSheet c0) (h1 : ra_MOK l X mi_N_in c1) (h2 : ra_MOK l X mi_N_lacks c2) (F : ra_Fx X p rm_N_get s m args c prog_13_method_71_code 5 cn_N) (hr : meth.sig.returnType = (some .int)) (hlk : meth.locks = false) : ra_At X p l e rm_N_get s m args below meth c 5 (MQ below (ra_Qc X Z) args s 0 0 (ra_A X)) (b_N_get_0 c0 c1 c2 Z) 0 :=
  r_iload_n F d_N_get_0 rfl <| r_callS F h0 (co_N_isSheet (by decide +kernel) (by decide +kernel)) ⟨rfl, by decide +kernel⟩ ml_N_153 st_N_isSheet d_N_get_1 <| r_if_eq F d_N_get_4 (by decide) (o_N_get_16 h0 h1 h2 F hr hlk) (o_N_get_7 h0 h1 h2 F hr hlk)
theorem g_N_get {l : Launch} {X : ra_X} {c0 c1 c2 : ra_Sp}  (h0 : ra_MOK l X mi_N_isSheet c0) (h1 : ra_MOK l X mi_N_in c1) (h2 : ra_MOK l X mi_N_lacks c2) (sp : ra_Sp) (ve : ∀ as σ Z, ra_c1 as = true → as.length = 4 → sp as σ Z → b_N_get_0 c0 c1 c2 Z (ra_pad 5 as) [] σ) : ra_MOK l X mi_N_get sp := by
  refine ra_enter (k := fun Z as σ => b_N_get_0 c0 c1 c2 Z) cn_N rfl (by decide +kernel) ⟨by decide +kernel, by decide +kernel⟩ (by decide +kernel) ?_ ve
  intro p e s m args below meth c Z as σ hsp F hr hlk
  exact o_N_get_0 h0 h1 h2 F hr hlk

theorem d_N_copy_0 : decode prog_13_method_72_code 0 = .ok (.iload_n 1, 1) := by decide +kernel
theorem d_N_copy_1 : decode prog_13_method_72_code 1 = .ok (.invokestatic 153, 3) := by decide +kernel
theorem d_N_copy_4 : decode prog_13_method_72_code 4 = .ok (.ifCond .eq 10, 3) := by decide +kernel
theorem d_N_copy_7 : decode prog_13_method_72_code 7 = .ok (.iload_n 3, 1) := by decide +kernel
theorem d_N_copy_8 : decode prog_13_method_72_code 8 = .ok (.invokestatic 153, 3) := by decide +kernel
theorem d_N_copy_11 : decode prog_13_method_72_code 11 = .ok (.ifCond .ne 6, 3) := by decide +kernel
theorem d_N_copy_14 : decode prog_13_method_72_code 14 = .ok (.bipush (-2), 2) := by decide +kernel
theorem d_N_copy_16 : decode prog_13_method_72_code 16 = .ok (.ireturn, 1) := by decide +kernel
theorem d_N_copy_17 : decode prog_13_method_72_code 17 = .ok (.aload_n 0, 1) := by decide +kernel
theorem d_N_copy_18 : decode prog_13_method_72_code 18 = .ok (.getfield 85, 3) := by decide +kernel
theorem d_N_copy_21 : decode prog_13_method_72_code 21 = .ok (.iload_n 1, 1) := by decide +kernel
theorem d_N_copy_22 : decode prog_13_method_72_code 22 = .ok (.baload, 1) := by decide +kernel
theorem d_N_copy_23 : decode prog_13_method_72_code 23 = .ok (.ifCond .eq 12, 3) := by decide +kernel
theorem d_N_copy_26 : decode prog_13_method_72_code 26 = .ok (.aload_n 0, 1) := by decide +kernel
theorem d_N_copy_27 : decode prog_13_method_72_code 27 = .ok (.getfield 85, 3) := by decide +kernel
theorem d_N_copy_30 : decode prog_13_method_72_code 30 = .ok (.iload_n 3, 1) := by decide +kernel
theorem d_N_copy_31 : decode prog_13_method_72_code 31 = .ok (.baload, 1) := by decide +kernel
theorem d_N_copy_32 : decode prog_13_method_72_code 32 = .ok (.ifCond .ne 9, 3) := by decide +kernel
theorem d_N_copy_35 : decode prog_13_method_72_code 35 = .ok (.aload_n 0, 1) := by decide +kernel
theorem d_N_copy_36 : decode prog_13_method_72_code 36 = .ok (.iconst 1, 1) := by decide +kernel
theorem d_N_copy_37 : decode prog_13_method_72_code 37 = .ok (.invokevirtual 156, 3) := by decide +kernel
theorem d_N_copy_40 : decode prog_13_method_72_code 40 = .ok (.ireturn, 1) := by decide +kernel
theorem d_N_copy_41 : decode prog_13_method_72_code 41 = .ok (.aload_n 0, 1) := by decide +kernel
theorem d_N_copy_42 : decode prog_13_method_72_code 42 = .ok (.getfield 89, 3) := by decide +kernel
theorem d_N_copy_45 : decode prog_13_method_72_code 45 = .ok (.iload_n 1, 1) := by decide +kernel
theorem d_N_copy_46 : decode prog_13_method_72_code 46 = .ok (.iaload, 1) := by decide +kernel
theorem d_N_copy_47 : decode prog_13_method_72_code 47 = .ok (.aload_n 0, 1) := by decide +kernel
theorem d_N_copy_48 : decode prog_13_method_72_code 48 = .ok (.getfield 89, 3) := by decide +kernel
theorem d_N_copy_51 : decode prog_13_method_72_code 51 = .ok (.iload_n 3, 1) := by decide +kernel
theorem d_N_copy_52 : decode prog_13_method_72_code 52 = .ok (.iaload, 1) := by decide +kernel
theorem d_N_copy_53 : decode prog_13_method_72_code 53 = .ok (.if_icmp .eq 9, 3) := by decide +kernel
theorem d_N_copy_56 : decode prog_13_method_72_code 56 = .ok (.aload_n 0, 1) := by decide +kernel
theorem d_N_copy_57 : decode prog_13_method_72_code 57 = .ok (.iconst 4, 1) := by decide +kernel
theorem d_N_copy_58 : decode prog_13_method_72_code 58 = .ok (.invokevirtual 156, 3) := by decide +kernel
theorem d_N_copy_61 : decode prog_13_method_72_code 61 = .ok (.ireturn, 1) := by decide +kernel
theorem d_N_copy_62 : decode prog_13_method_72_code 62 = .ok (.iload_n 2, 1) := by decide +kernel
theorem d_N_copy_63 : decode prog_13_method_72_code 63 = .ok (.ifCond .lt 48, 3) := by decide +kernel
theorem d_N_copy_66 : decode prog_13_method_72_code 66 = .ok (.iload 4, 2) := by decide +kernel
theorem d_N_copy_68 : decode prog_13_method_72_code 68 = .ok (.ifCond .lt 43, 3) := by decide +kernel
theorem d_N_copy_71 : decode prog_13_method_72_code 71 = .ok (.iload 5, 2) := by decide +kernel
theorem d_N_copy_73 : decode prog_13_method_72_code 73 = .ok (.ifCond .lt 38, 3) := by decide +kernel
theorem d_N_copy_76 : decode prog_13_method_72_code 76 = .ok (.iload_n 2, 1) := by decide +kernel
theorem d_N_copy_77 : decode prog_13_method_72_code 77 = .ok (.i2l, 1) := by decide +kernel
theorem d_N_copy_78 : decode prog_13_method_72_code 78 = .ok (.iload 5, 2) := by decide +kernel
theorem d_N_copy_80 : decode prog_13_method_72_code 80 = .ok (.i2l, 1) := by decide +kernel
theorem d_N_copy_81 : decode prog_13_method_72_code 81 = .ok (.ladd, 1) := by decide +kernel
theorem d_N_copy_82 : decode prog_13_method_72_code 82 = .ok (.aload_n 0, 1) := by decide +kernel
theorem d_N_copy_83 : decode prog_13_method_72_code 83 = .ok (.getfield 92, 3) := by decide +kernel
theorem d_N_copy_86 : decode prog_13_method_72_code 86 = .ok (.iload_n 1, 1) := by decide +kernel
theorem d_N_copy_87 : decode prog_13_method_72_code 87 = .ok (.iaload, 1) := by decide +kernel
theorem d_N_copy_88 : decode prog_13_method_72_code 88 = .ok (.i2l, 1) := by decide +kernel
theorem d_N_copy_89 : decode prog_13_method_72_code 89 = .ok (.lcmp, 1) := by decide +kernel
theorem d_N_copy_90 : decode prog_13_method_72_code 90 = .ok (.ifCond .gt 21, 3) := by decide +kernel
theorem d_N_copy_93 : decode prog_13_method_72_code 93 = .ok (.iload 4, 2) := by decide +kernel
theorem d_N_copy_95 : decode prog_13_method_72_code 95 = .ok (.i2l, 1) := by decide +kernel
theorem d_N_copy_96 : decode prog_13_method_72_code 96 = .ok (.iload 5, 2) := by decide +kernel
theorem d_N_copy_98 : decode prog_13_method_72_code 98 = .ok (.i2l, 1) := by decide +kernel
theorem d_N_copy_99 : decode prog_13_method_72_code 99 = .ok (.ladd, 1) := by decide +kernel
theorem d_N_copy_100 : decode prog_13_method_72_code 100 = .ok (.aload_n 0, 1) := by decide +kernel
theorem d_N_copy_101 : decode prog_13_method_72_code 101 = .ok (.getfield 92, 3) := by decide +kernel
theorem d_N_copy_104 : decode prog_13_method_72_code 104 = .ok (.iload_n 3, 1) := by decide +kernel
theorem d_N_copy_105 : decode prog_13_method_72_code 105 = .ok (.iaload, 1) := by decide +kernel
theorem d_N_copy_106 : decode prog_13_method_72_code 106 = .ok (.i2l, 1) := by decide +kernel
theorem d_N_copy_107 : decode prog_13_method_72_code 107 = .ok (.lcmp, 1) := by decide +kernel
theorem d_N_copy_108 : decode prog_13_method_72_code 108 = .ok (.ifCond .le 9, 3) := by decide +kernel
theorem d_N_copy_111 : decode prog_13_method_72_code 111 = .ok (.aload_n 0, 1) := by decide +kernel
theorem d_N_copy_112 : decode prog_13_method_72_code 112 = .ok (.iconst 2, 1) := by decide +kernel
theorem d_N_copy_113 : decode prog_13_method_72_code 113 = .ok (.invokevirtual 156, 3) := by decide +kernel
theorem d_N_copy_116 : decode prog_13_method_72_code 116 = .ok (.ireturn, 1) := by decide +kernel
theorem d_N_copy_117 : decode prog_13_method_72_code 117 = .ok (.iconst 0, 1) := by decide +kernel
theorem d_N_copy_118 : decode prog_13_method_72_code 118 = .ok (.istore 6, 2) := by decide +kernel
theorem d_N_copy_120 : decode prog_13_method_72_code 120 = .ok (.iload 6, 2) := by decide +kernel
theorem d_N_copy_122 : decode prog_13_method_72_code 122 = .ok (.iload 5, 2) := by decide +kernel
theorem d_N_copy_124 : decode prog_13_method_72_code 124 = .ok (.if_icmp .ge 30, 3) := by decide +kernel
theorem d_N_copy_127 : decode prog_13_method_72_code 127 = .ok (.aload_n 0, 1) := by decide +kernel
theorem d_N_copy_128 : decode prog_13_method_72_code 128 = .ok (.getfield 98, 3) := by decide +kernel
theorem d_N_copy_131 : decode prog_13_method_72_code 131 = .ok (.iload 6, 2) := by decide +kernel
theorem d_N_copy_133 : decode prog_13_method_72_code 133 = .ok (.aload_n 0, 1) := by decide +kernel
theorem d_N_copy_134 : decode prog_13_method_72_code 134 = .ok (.getfield 95, 3) := by decide +kernel
theorem d_N_copy_137 : decode prog_13_method_72_code 137 = .ok (.bipush 48, 2) := by decide +kernel
theorem d_N_copy_139 : decode prog_13_method_72_code 139 = .ok (.iload_n 1, 1) := by decide +kernel
theorem d_N_copy_140 : decode prog_13_method_72_code 140 = .ok (.imul, 1) := by decide +kernel
theorem d_N_copy_141 : decode prog_13_method_72_code 141 = .ok (.iload_n 2, 1) := by decide +kernel
theorem d_N_copy_142 : decode prog_13_method_72_code 142 = .ok (.iadd, 1) := by decide +kernel
theorem d_N_copy_143 : decode prog_13_method_72_code 143 = .ok (.iload 6, 2) := by decide +kernel
theorem d_N_copy_145 : decode prog_13_method_72_code 145 = .ok (.iadd, 1) := by decide +kernel
theorem d_N_copy_146 : decode prog_13_method_72_code 146 = .ok (.iaload, 1) := by decide +kernel
theorem d_N_copy_147 : decode prog_13_method_72_code 147 = .ok (.iastore, 1) := by decide +kernel
theorem d_N_copy_148 : decode prog_13_method_72_code 148 = .ok (.iinc 6 1, 3) := by decide +kernel
theorem d_N_copy_151 : decode prog_13_method_72_code 151 = .ok (.goto (-31), 3) := by decide +kernel
theorem d_N_copy_154 : decode prog_13_method_72_code 154 = .ok (.iconst 0, 1) := by decide +kernel
theorem d_N_copy_155 : decode prog_13_method_72_code 155 = .ok (.istore 6, 2) := by decide +kernel
theorem d_N_copy_157 : decode prog_13_method_72_code 157 = .ok (.iload 6, 2) := by decide +kernel
theorem d_N_copy_159 : decode prog_13_method_72_code 159 = .ok (.iload 5, 2) := by decide +kernel
theorem d_N_copy_161 : decode prog_13_method_72_code 161 = .ok (.if_icmp .ge 31, 3) := by decide +kernel
theorem d_N_copy_164 : decode prog_13_method_72_code 164 = .ok (.aload_n 0, 1) := by decide +kernel
theorem d_N_copy_165 : decode prog_13_method_72_code 165 = .ok (.getfield 95, 3) := by decide +kernel
theorem d_N_copy_168 : decode prog_13_method_72_code 168 = .ok (.bipush 48, 2) := by decide +kernel
theorem d_N_copy_170 : decode prog_13_method_72_code 170 = .ok (.iload_n 3, 1) := by decide +kernel
theorem d_N_copy_171 : decode prog_13_method_72_code 171 = .ok (.imul, 1) := by decide +kernel
theorem d_N_copy_172 : decode prog_13_method_72_code 172 = .ok (.iload 4, 2) := by decide +kernel
theorem d_N_copy_174 : decode prog_13_method_72_code 174 = .ok (.iadd, 1) := by decide +kernel
theorem d_N_copy_175 : decode prog_13_method_72_code 175 = .ok (.iload 6, 2) := by decide +kernel
theorem d_N_copy_177 : decode prog_13_method_72_code 177 = .ok (.iadd, 1) := by decide +kernel
theorem d_N_copy_178 : decode prog_13_method_72_code 178 = .ok (.aload_n 0, 1) := by decide +kernel
theorem d_N_copy_179 : decode prog_13_method_72_code 179 = .ok (.getfield 98, 3) := by decide +kernel
theorem d_N_copy_182 : decode prog_13_method_72_code 182 = .ok (.iload 6, 2) := by decide +kernel
theorem d_N_copy_184 : decode prog_13_method_72_code 184 = .ok (.iaload, 1) := by decide +kernel
theorem d_N_copy_185 : decode prog_13_method_72_code 185 = .ok (.iastore, 1) := by decide +kernel
theorem d_N_copy_186 : decode prog_13_method_72_code 186 = .ok (.iinc 6 1, 3) := by decide +kernel
theorem d_N_copy_189 : decode prog_13_method_72_code 189 = .ok (.goto (-32), 3) := by decide +kernel
theorem d_N_copy_192 : decode prog_13_method_72_code 192 = .ok (.iconst 1, 1) := by decide +kernel
theorem d_N_copy_193 : decode prog_13_method_72_code 193 = .ok (.ireturn, 1) := by decide +kernel
def b_N_copy_192 (c0 c1 : ra_Sp) (I : Nat → ra_K) (Z : ra_R) : ra_K := w_c 1 <| w_ir Z
def b_N_copy_164 (c0 c1 : ra_Sp) (I : Nat → ra_K) (Z : ra_R) : ra_K := w_al 0 <| w_gr 11 31 <| w_c 48 <| w_il 3 <| w_i2 (fun x y => x * y) <| w_il 4 <| w_i2 (fun x y => x + y) <| w_il 6 <| w_i2 (fun x y => x + y) <| w_al 0 <| w_gr 11 32 <| w_il 6 <| w_ald <| w_ast <| w_inc 6 1 <| (I 157)
def b_N_copy_157 (c0 c1 : ra_Sp) (I : Nat → ra_K) (Z : ra_R) : ra_K := w_il 6 <| w_il 5 <| w_b2 (fun x y => y ≤ x) (b_N_copy_192 c0 c1 I Z) (b_N_copy_164 c0 c1 I Z)
def b_N_copy_154 (c0 c1 : ra_Sp) (I : Nat → ra_K) (Z : ra_R) : ra_K := w_c 0 <| w_is 6 <| (I 157)
def b_N_copy_127 (c0 c1 : ra_Sp) (I : Nat → ra_K) (Z : ra_R) : ra_K := w_al 0 <| w_gr 11 32 <| w_il 6 <| w_al 0 <| w_gr 11 31 <| w_c 48 <| w_il 1 <| w_i2 (fun x y => x * y) <| w_il 2 <| w_i2 (fun x y => x + y) <| w_il 6 <| w_i2 (fun x y => x + y) <| w_ald <| w_ast <| w_inc 6 1 <| (I 120)
def b_N_copy_120 (c0 c1 : ra_Sp) (I : Nat → ra_K) (Z : ra_R) : ra_K := w_il 6 <| w_il 5 <| w_b2 (fun x y => y ≤ x) (b_N_copy_154 c0 c1 I Z) (b_N_copy_127 c0 c1 I Z)
def b_N_copy_117 (c0 c1 : ra_Sp) (I : Nat → ra_K) (Z : ra_R) : ra_K := w_c 0 <| w_is 6 <| (I 120)
def b_N_copy_111 (c0 c1 : ra_Sp) (I : Nat → ra_K) (Z : ra_R) : ra_K := w_al 0 <| w_c 2 <| w_cv c1 2 11 <| w_ir Z
def b_N_copy_93 (c0 c1 : ra_Sp) (I : Nat → ra_K) (Z : ra_R) : ra_K := w_il 4 <| w_i2l <| w_il 5 <| w_i2l <| w_l2 (fun x y => x + y) <| w_al 0 <| w_gr 11 30 <| w_il 3 <| w_ald <| w_i2l <| w_lcmp <| w_b1 (fun x => x ≤ 0) (b_N_copy_117 c0 c1 I Z) (b_N_copy_111 c0 c1 I Z)
def b_N_copy_76 (c0 c1 : ra_Sp) (I : Nat → ra_K) (Z : ra_R) : ra_K := w_il 2 <| w_i2l <| w_il 5 <| w_i2l <| w_l2 (fun x y => x + y) <| w_al 0 <| w_gr 11 30 <| w_il 1 <| w_ald <| w_i2l <| w_lcmp <| w_b1 (fun x => 0 < x) (b_N_copy_111 c0 c1 I Z) (b_N_copy_93 c0 c1 I Z)
def b_N_copy_71 (c0 c1 : ra_Sp) (I : Nat → ra_K) (Z : ra_R) : ra_K := w_il 5 <| w_b1 (fun x => x < 0) (b_N_copy_111 c0 c1 I Z) (b_N_copy_76 c0 c1 I Z)
def b_N_copy_66 (c0 c1 : ra_Sp) (I : Nat → ra_K) (Z : ra_R) : ra_K := w_il 4 <| w_b1 (fun x => x < 0) (b_N_copy_111 c0 c1 I Z) (b_N_copy_71 c0 c1 I Z)
def b_N_copy_62 (c0 c1 : ra_Sp) (I : Nat → ra_K) (Z : ra_R) : ra_K := w_il 2 <| w_b1 (fun x => x < 0) (b_N_copy_111 c0 c1 I Z) (b_N_copy_66 c0 c1 I Z)
def b_N_copy_56 (c0 c1 : ra_Sp) (I : Nat → ra_K) (Z : ra_R) : ra_K := w_al 0 <| w_c 4 <| w_cv c1 2 11 <| w_ir Z
def b_N_copy_41 (c0 c1 : ra_Sp) (I : Nat → ra_K) (Z : ra_R) : ra_K := w_al 0 <| w_gr 11 29 <| w_il 1 <| w_ald <| w_al 0 <| w_gr 11 29 <| w_il 3 <| w_ald <| w_b2 (fun x y => x = y) (b_N_copy_62 c0 c1 I Z) (b_N_copy_56 c0 c1 I Z)
def b_N_copy_35 (c0 c1 : ra_Sp) (I : Nat → ra_K) (Z : ra_R) : ra_K := w_al 0 <| w_c 1 <| w_cv c1 2 11 <| w_ir Z
def b_N_copy_26 (c0 c1 : ra_Sp) (I : Nat → ra_K) (Z : ra_R) : ra_K := w_al 0 <| w_gr 11 28 <| w_il 3 <| w_zld <| w_b1 (fun x => x = 0) (b_N_copy_35 c0 c1 I Z) (b_N_copy_41 c0 c1 I Z)
def b_N_copy_17 (c0 c1 : ra_Sp) (I : Nat → ra_K) (Z : ra_R) : ra_K := w_al 0 <| w_gr 11 28 <| w_il 1 <| w_zld <| w_b1 (fun x => x = 0) (b_N_copy_35 c0 c1 I Z) (b_N_copy_26 c0 c1 I Z)
def b_N_copy_14 (c0 c1 : ra_Sp) (I : Nat → ra_K) (Z : ra_R) : ra_K := w_c (-2) <| w_ir Z
def b_N_copy_7 (c0 c1 : ra_Sp) (I : Nat → ra_K) (Z : ra_R) : ra_K := w_il 3 <| w_cs c0 1 <| w_b1 (fun x => x = 0) (b_N_copy_14 c0 c1 I Z) (b_N_copy_17 c0 c1 I Z)
def b_N_copy_0 (c0 c1 : ra_Sp) (I : Nat → ra_K) (Z : ra_R) : ra_K := w_il 1 <| w_cs c0 1 <| w_b1 (fun x => x = 0) (b_N_copy_14 c0 c1 I Z) (b_N_copy_7 c0 c1 I Z)
theorem o_N_copy_192 {X : ra_X} {p : Program} {l : Launch} {e : Env} {s : State} {m : MethodId} {args : Array Value} {below : List Frame} {meth : Method} {c : Code} {Z : ra_R} {c0 c1 : ra_Sp}  (h0 : ra_MOK l X mi_N_isSheet c0) (h1 : ra_MOK l X mi_N_meets c1) (F : ra_Fx X p rm_N_copy s m args c prog_13_method_72_code 7 cn_N) (hr : meth.sig.returnType = (some .int)) (hlk : meth.locks = false) {I : Nat → ra_K} (hI : ∀ t ∈ [120, 157], ra_At X p l e rm_N_copy s m args below meth c 7 (MQ below (ra_Qc X Z) args s 0 0 (ra_A X)) (I t) t) : ra_At X p l e rm_N_copy s m args below meth c 7 (MQ below (ra_Qc X Z) args s 0 0 (ra_A X)) (b_N_copy_192 c0 c1 I Z) 192 :=
  r_iconst F d_N_copy_192 (by decide) <| r_ireturn F hr hlk d_N_copy_193
theorem o_N_copy_164 {X : ra_X} {p : Program} {l : Launch} {e : Env} {s : State} {m : MethodId} {args : Array Value} {below : List Frame} {meth : Method} {c : Code} {Z : ra_R} {c0 c1 : ra_Sp}  (h0 : ra_MOK l X mi_N_isSheet c0) (h1 : ra_MOK l X mi_N_meets c1) (F : ra_Fx X p rm_N_copy s m args c prog_13_method_72_code 7 cn_N) (hr : meth.sig.returnType = (some .int)) (hlk : meth.locks = false) {I : Nat → ra_K} (hI : ∀ t ∈ [120, 157], ra_At X p l e rm_N_copy s m args below meth c 7 (MQ below (ra_Qc X Z) args s 0 0 (ra_A X)) (I t) t) : ra_At X p l e rm_N_copy s m args below meth c 7 (MQ below (ra_Qc X Z) args s 0 0 (ra_A X)) (b_N_copy_164 c0 c1 I Z) 164 :=
  r_aload_n F d_N_copy_164 rfl <| r_getR F cg_N (j := 31) (by decide) rfl fl_N_95 d_N_copy_165 <| r_bipush F d_N_copy_168 (by decide) <| r_iload_n F d_N_copy_170 rfl <| r_imul F d_N_copy_171 <| r_iload F d_N_copy_172 <| r_iadd F d_N_copy_174 <| r_iload F d_N_copy_175 <| r_iadd F d_N_copy_177 <| r_aload_n F d_N_copy_178 rfl <| r_getR F cg_N (j := 32) (by decide) rfl fl_N_98 d_N_copy_179 <| r_iload F d_N_copy_182 <| r_iaload F d_N_copy_184 <| r_iastore F d_N_copy_185 <| r_iinc F d_N_copy_186 (by decide) (by decide) <| r_goto F d_N_copy_189 (by decide) (hI 157 (by decide))
theorem o_N_copy_157 {X : ra_X} {p : Program} {l : Launch} {e : Env} {s : State} {m : MethodId} {args : Array Value} {below : List Frame} {meth : Method} {c : Code} {Z : ra_R} {c0 c1 : ra_Sp}  (h0 : ra_MOK l X mi_N_isSheet c0) (h1 : ra_MOK l X mi_N_meets c1) (F : ra_Fx X p rm_N_copy s m args c prog_13_method_72_code 7 cn_N) (hr : meth.sig.returnType = (some .int)) (hlk : meth.locks = false) {I : Nat → ra_K} (hI : ∀ t ∈ [120, 157], ra_At X p l e rm_N_copy s m args below meth c 7 (MQ below (ra_Qc X Z) args s 0 0 (ra_A X)) (I t) t) : ra_At X p l e rm_N_copy s m args below meth c 7 (MQ below (ra_Qc X Z) args s 0 0 (ra_A X)) (b_N_copy_157 c0 c1 I Z) 157 :=
  r_iload F d_N_copy_157 <| r_iload F d_N_copy_159 <| r_icmp_ge F d_N_copy_161 (by decide) (o_N_copy_192 h0 h1 F hr hlk hI) (o_N_copy_164 h0 h1 F hr hlk hI)
theorem o_N_copy_154 {X : ra_X} {p : Program} {l : Launch} {e : Env} {s : State} {m : MethodId} {args : Array Value} {below : List Frame} {meth : Method} {c : Code} {Z : ra_R} {c0 c1 : ra_Sp}  (h0 : ra_MOK l X mi_N_isSheet c0) (h1 : ra_MOK l X mi_N_meets c1) (F : ra_Fx X p rm_N_copy s m args c prog_13_method_72_code 7 cn_N) (hr : meth.sig.returnType = (some .int)) (hlk : meth.locks = false) {I : Nat → ra_K} (hI : ∀ t ∈ [120, 157], ra_At X p l e rm_N_copy s m args below meth c 7 (MQ below (ra_Qc X Z) args s 0 0 (ra_A X)) (I t) t) : ra_At X p l e rm_N_copy s m args below meth c 7 (MQ below (ra_Qc X Z) args s 0 0 (ra_A X)) (b_N_copy_154 c0 c1 I Z) 154 :=
  r_iconst F d_N_copy_154 (by decide) <| r_istore F d_N_copy_155 (by decide) <| (hI 157 (by decide))
theorem o_N_copy_127 {X : ra_X} {p : Program} {l : Launch} {e : Env} {s : State} {m : MethodId} {args : Array Value} {below : List Frame} {meth : Method} {c : Code} {Z : ra_R} {c0 c1 : ra_Sp}  (h0 : ra_MOK l X mi_N_isSheet c0) (h1 : ra_MOK l X mi_N_meets c1) (F : ra_Fx X p rm_N_copy s m args c prog_13_method_72_code 7 cn_N) (hr : meth.sig.returnType = (some .int)) (hlk : meth.locks = false) {I : Nat → ra_K} (hI : ∀ t ∈ [120, 157], ra_At X p l e rm_N_copy s m args below meth c 7 (MQ below (ra_Qc X Z) args s 0 0 (ra_A X)) (I t) t) : ra_At X p l e rm_N_copy s m args below meth c 7 (MQ below (ra_Qc X Z) args s 0 0 (ra_A X)) (b_N_copy_127 c0 c1 I Z) 127 :=
  r_aload_n F d_N_copy_127 rfl <| r_getR F cg_N (j := 32) (by decide) rfl fl_N_98 d_N_copy_128 <| r_iload F d_N_copy_131 <| r_aload_n F d_N_copy_133 rfl <| r_getR F cg_N (j := 31) (by decide) rfl fl_N_95 d_N_copy_134 <| r_bipush F d_N_copy_137 (by decide) <| r_iload_n F d_N_copy_139 rfl <| r_imul F d_N_copy_140 <| r_iload_n F d_N_copy_141 rfl <| r_iadd F d_N_copy_142 <| r_iload F d_N_copy_143 <| r_iadd F d_N_copy_145 <| r_iaload F d_N_copy_146 <| r_iastore F d_N_copy_147 <| r_iinc F d_N_copy_148 (by decide) (by decide) <| r_goto F d_N_copy_151 (by decide) (hI 120 (by decide))
theorem o_N_copy_120 {X : ra_X} {p : Program} {l : Launch} {e : Env} {s : State} {m : MethodId} {args : Array Value} {below : List Frame} {meth : Method} {c : Code} {Z : ra_R} {c0 c1 : ra_Sp}  (h0 : ra_MOK l X mi_N_isSheet c0) (h1 : ra_MOK l X mi_N_meets c1) (F : ra_Fx X p rm_N_copy s m args c prog_13_method_72_code 7 cn_N) (hr : meth.sig.returnType = (some .int)) (hlk : meth.locks = false) {I : Nat → ra_K} (hI : ∀ t ∈ [120, 157], ra_At X p l e rm_N_copy s m args below meth c 7 (MQ below (ra_Qc X Z) args s 0 0 (ra_A X)) (I t) t) : ra_At X p l e rm_N_copy s m args below meth c 7 (MQ below (ra_Qc X Z) args s 0 0 (ra_A X)) (b_N_copy_120 c0 c1 I Z) 120 :=
  r_iload F d_N_copy_120 <| r_iload F d_N_copy_122 <| r_icmp_ge F d_N_copy_124 (by decide) (o_N_copy_154 h0 h1 F hr hlk hI) (o_N_copy_127 h0 h1 F hr hlk hI)
theorem o_N_copy_117 {X : ra_X} {p : Program} {l : Launch} {e : Env} {s : State} {m : MethodId} {args : Array Value} {below : List Frame} {meth : Method} {c : Code} {Z : ra_R} {c0 c1 : ra_Sp}  (h0 : ra_MOK l X mi_N_isSheet c0) (h1 : ra_MOK l X mi_N_meets c1) (F : ra_Fx X p rm_N_copy s m args c prog_13_method_72_code 7 cn_N) (hr : meth.sig.returnType = (some .int)) (hlk : meth.locks = false) {I : Nat → ra_K} (hI : ∀ t ∈ [120, 157], ra_At X p l e rm_N_copy s m args below meth c 7 (MQ below (ra_Qc X Z) args s 0 0 (ra_A X)) (I t) t) : ra_At X p l e rm_N_copy s m args below meth c 7 (MQ below (ra_Qc X Z) args s 0 0 (ra_A X)) (b_N_copy_117 c0 c1 I Z) 117 :=
  r_iconst F d_N_copy_117 (by decide) <| r_istore F d_N_copy_118 (by decide) <| (hI 120 (by decide))
theorem o_N_copy_111 {X : ra_X} {p : Program} {l : Launch} {e : Env} {s : State} {m : MethodId} {args : Array Value} {below : List Frame} {meth : Method} {c : Code} {Z : ra_R} {c0 c1 : ra_Sp}  (h0 : ra_MOK l X mi_N_isSheet c0) (h1 : ra_MOK l X mi_N_meets c1) (F : ra_Fx X p rm_N_copy s m args c prog_13_method_72_code 7 cn_N) (hr : meth.sig.returnType = (some .int)) (hlk : meth.locks = false) {I : Nat → ra_K} (hI : ∀ t ∈ [120, 157], ra_At X p l e rm_N_copy s m args below meth c 7 (MQ below (ra_Qc X Z) args s 0 0 (ra_A X)) (I t) t) : ra_At X p l e rm_N_copy s m args below meth c 7 (MQ below (ra_Qc X Z) args s 0 0 (ra_A X)) (b_N_copy_111 c0 c1 I Z) 111 :=
  r_aload_n F d_N_copy_111 rfl <| r_iconst F d_N_copy_112 (by decide) <| r_callV F h1 (co_N_meets (by decide +kernel) (by decide +kernel)) ⟨rfl, by decide +kernel⟩ ⟨rfl, by decide⟩ ml_N_156 im_N_meets se_N_meets d_N_copy_113 <| r_ireturn F hr hlk d_N_copy_116
theorem o_N_copy_93 {X : ra_X} {p : Program} {l : Launch} {e : Env} {s : State} {m : MethodId} {args : Array Value} {below : List Frame} {meth : Method} {c : Code} {Z : ra_R} {c0 c1 : ra_Sp}  (h0 : ra_MOK l X mi_N_isSheet c0) (h1 : ra_MOK l X mi_N_meets c1) (F : ra_Fx X p rm_N_copy s m args c prog_13_method_72_code 7 cn_N) (hr : meth.sig.returnType = (some .int)) (hlk : meth.locks = false) {I : Nat → ra_K} (hI : ∀ t ∈ [120, 157], ra_At X p l e rm_N_copy s m args below meth c 7 (MQ below (ra_Qc X Z) args s 0 0 (ra_A X)) (I t) t) : ra_At X p l e rm_N_copy s m args below meth c 7 (MQ below (ra_Qc X Z) args s 0 0 (ra_A X)) (b_N_copy_93 c0 c1 I Z) 93 :=
  r_iload F d_N_copy_93 <| r_i2l F d_N_copy_95 <| r_iload F d_N_copy_96 <| r_i2l F d_N_copy_98 <| r_ladd F d_N_copy_99 <| r_aload_n F d_N_copy_100 rfl <| r_getR F cg_N (j := 30) (by decide) rfl fl_N_92 d_N_copy_101 <| r_iload_n F d_N_copy_104 rfl <| r_iaload F d_N_copy_105 <| r_i2l F d_N_copy_106 <| r_lcmp F d_N_copy_107 <| r_if_le F d_N_copy_108 (by decide) (o_N_copy_117 h0 h1 F hr hlk hI) (o_N_copy_111 h0 h1 F hr hlk hI)
theorem o_N_copy_76 {X : ra_X} {p : Program} {l : Launch} {e : Env} {s : State} {m : MethodId} {args : Array Value} {below : List Frame} {meth : Method} {c : Code} {Z : ra_R} {c0 c1 : ra_Sp}  (h0 : ra_MOK l X mi_N_isSheet c0) (h1 : ra_MOK l X mi_N_meets c1) (F : ra_Fx X p rm_N_copy s m args c prog_13_method_72_code 7 cn_N) (hr : meth.sig.returnType = (some .int)) (hlk : meth.locks = false) {I : Nat → ra_K} (hI : ∀ t ∈ [120, 157], ra_At X p l e rm_N_copy s m args below meth c 7 (MQ below (ra_Qc X Z) args s 0 0 (ra_A X)) (I t) t) : ra_At X p l e rm_N_copy s m args below meth c 7 (MQ below (ra_Qc X Z) args s 0 0 (ra_A X)) (b_N_copy_76 c0 c1 I Z) 76 :=
  r_iload_n F d_N_copy_76 rfl <| r_i2l F d_N_copy_77 <| r_iload F d_N_copy_78 <| r_i2l F d_N_copy_80 <| r_ladd F d_N_copy_81 <| r_aload_n F d_N_copy_82 rfl <| r_getR F cg_N (j := 30) (by decide) rfl fl_N_92 d_N_copy_83 <| r_iload_n F d_N_copy_86 rfl <| r_iaload F d_N_copy_87 <| r_i2l F d_N_copy_88 <| r_lcmp F d_N_copy_89 <| r_if_gt F d_N_copy_90 (by decide) (o_N_copy_111 h0 h1 F hr hlk hI) (o_N_copy_93 h0 h1 F hr hlk hI)
theorem o_N_copy_71 {X : ra_X} {p : Program} {l : Launch} {e : Env} {s : State} {m : MethodId} {args : Array Value} {below : List Frame} {meth : Method} {c : Code} {Z : ra_R} {c0 c1 : ra_Sp}  (h0 : ra_MOK l X mi_N_isSheet c0) (h1 : ra_MOK l X mi_N_meets c1) (F : ra_Fx X p rm_N_copy s m args c prog_13_method_72_code 7 cn_N) (hr : meth.sig.returnType = (some .int)) (hlk : meth.locks = false) {I : Nat → ra_K} (hI : ∀ t ∈ [120, 157], ra_At X p l e rm_N_copy s m args below meth c 7 (MQ below (ra_Qc X Z) args s 0 0 (ra_A X)) (I t) t) : ra_At X p l e rm_N_copy s m args below meth c 7 (MQ below (ra_Qc X Z) args s 0 0 (ra_A X)) (b_N_copy_71 c0 c1 I Z) 71 :=
  r_iload F d_N_copy_71 <| r_if_lt F d_N_copy_73 (by decide) (o_N_copy_111 h0 h1 F hr hlk hI) (o_N_copy_76 h0 h1 F hr hlk hI)
theorem o_N_copy_66 {X : ra_X} {p : Program} {l : Launch} {e : Env} {s : State} {m : MethodId} {args : Array Value} {below : List Frame} {meth : Method} {c : Code} {Z : ra_R} {c0 c1 : ra_Sp}  (h0 : ra_MOK l X mi_N_isSheet c0) (h1 : ra_MOK l X mi_N_meets c1) (F : ra_Fx X p rm_N_copy s m args c prog_13_method_72_code 7 cn_N) (hr : meth.sig.returnType = (some .int)) (hlk : meth.locks = false) {I : Nat → ra_K} (hI : ∀ t ∈ [120, 157], ra_At X p l e rm_N_copy s m args below meth c 7 (MQ below (ra_Qc X Z) args s 0 0 (ra_A X)) (I t) t) : ra_At X p l e rm_N_copy s m args below meth c 7 (MQ below (ra_Qc X Z) args s 0 0 (ra_A X)) (b_N_copy_66 c0 c1 I Z) 66 :=
  r_iload F d_N_copy_66 <| r_if_lt F d_N_copy_68 (by decide) (o_N_copy_111 h0 h1 F hr hlk hI) (o_N_copy_71 h0 h1 F hr hlk hI)
theorem o_N_copy_62 {X : ra_X} {p : Program} {l : Launch} {e : Env} {s : State} {m : MethodId} {args : Array Value} {below : List Frame} {meth : Method} {c : Code} {Z : ra_R} {c0 c1 : ra_Sp}  (h0 : ra_MOK l X mi_N_isSheet c0) (h1 : ra_MOK l X mi_N_meets c1) (F : ra_Fx X p rm_N_copy s m args c prog_13_method_72_code 7 cn_N) (hr : meth.sig.returnType = (some .int)) (hlk : meth.locks = false) {I : Nat → ra_K} (hI : ∀ t ∈ [120, 157], ra_At X p l e rm_N_copy s m args below meth c 7 (MQ below (ra_Qc X Z) args s 0 0 (ra_A X)) (I t) t) : ra_At X p l e rm_N_copy s m args below meth c 7 (MQ below (ra_Qc X Z) args s 0 0 (ra_A X)) (b_N_copy_62 c0 c1 I Z) 62 :=
  r_iload_n F d_N_copy_62 rfl <| r_if_lt F d_N_copy_63 (by decide) (o_N_copy_111 h0 h1 F hr hlk hI) (o_N_copy_66 h0 h1 F hr hlk hI)
theorem o_N_copy_56 {X : ra_X} {p : Program} {l : Launch} {e : Env} {s : State} {m : MethodId} {args : Array Value} {below : List Frame} {meth : Method} {c : Code} {Z : ra_R} {c0 c1 : ra_Sp}  (h0 : ra_MOK l X mi_N_isSheet c0) (h1 : ra_MOK l X mi_N_meets c1) (F : ra_Fx X p rm_N_copy s m args c prog_13_method_72_code 7 cn_N) (hr : meth.sig.returnType = (some .int)) (hlk : meth.locks = false) {I : Nat → ra_K} (hI : ∀ t ∈ [120, 157], ra_At X p l e rm_N_copy s m args below meth c 7 (MQ below (ra_Qc X Z) args s 0 0 (ra_A X)) (I t) t) : ra_At X p l e rm_N_copy s m args below meth c 7 (MQ below (ra_Qc X Z) args s 0 0 (ra_A X)) (b_N_copy_56 c0 c1 I Z) 56 :=
  r_aload_n F d_N_copy_56 rfl <| r_iconst F d_N_copy_57 (by decide) <| r_callV F h1 (co_N_meets (by decide +kernel) (by decide +kernel)) ⟨rfl, by decide +kernel⟩ ⟨rfl, by decide⟩ ml_N_156 im_N_meets se_N_meets d_N_copy_58 <| r_ireturn F hr hlk d_N_copy_61
theorem o_N_copy_41 {X : ra_X} {p : Program} {l : Launch} {e : Env} {s : State} {m : MethodId} {args : Array Value} {below : List Frame} {meth : Method} {c : Code} {Z : ra_R} {c0 c1 : ra_Sp}  (h0 : ra_MOK l X mi_N_isSheet c0) (h1 : ra_MOK l X mi_N_meets c1) (F : ra_Fx X p rm_N_copy s m args c prog_13_method_72_code 7 cn_N) (hr : meth.sig.returnType = (some .int)) (hlk : meth.locks = false) {I : Nat → ra_K} (hI : ∀ t ∈ [120, 157], ra_At X p l e rm_N_copy s m args below meth c 7 (MQ below (ra_Qc X Z) args s 0 0 (ra_A X)) (I t) t) : ra_At X p l e rm_N_copy s m args below meth c 7 (MQ below (ra_Qc X Z) args s 0 0 (ra_A X)) (b_N_copy_41 c0 c1 I Z) 41 :=
  r_aload_n F d_N_copy_41 rfl <| r_getR F cg_N (j := 29) (by decide) rfl fl_N_89 d_N_copy_42 <| r_iload_n F d_N_copy_45 rfl <| r_iaload F d_N_copy_46 <| r_aload_n F d_N_copy_47 rfl <| r_getR F cg_N (j := 29) (by decide) rfl fl_N_89 d_N_copy_48 <| r_iload_n F d_N_copy_51 rfl <| r_iaload F d_N_copy_52 <| r_icmp_eq F d_N_copy_53 (by decide) (o_N_copy_62 h0 h1 F hr hlk hI) (o_N_copy_56 h0 h1 F hr hlk hI)
theorem o_N_copy_35 {X : ra_X} {p : Program} {l : Launch} {e : Env} {s : State} {m : MethodId} {args : Array Value} {below : List Frame} {meth : Method} {c : Code} {Z : ra_R} {c0 c1 : ra_Sp}  (h0 : ra_MOK l X mi_N_isSheet c0) (h1 : ra_MOK l X mi_N_meets c1) (F : ra_Fx X p rm_N_copy s m args c prog_13_method_72_code 7 cn_N) (hr : meth.sig.returnType = (some .int)) (hlk : meth.locks = false) {I : Nat → ra_K} (hI : ∀ t ∈ [120, 157], ra_At X p l e rm_N_copy s m args below meth c 7 (MQ below (ra_Qc X Z) args s 0 0 (ra_A X)) (I t) t) : ra_At X p l e rm_N_copy s m args below meth c 7 (MQ below (ra_Qc X Z) args s 0 0 (ra_A X)) (b_N_copy_35 c0 c1 I Z) 35 :=
  r_aload_n F d_N_copy_35 rfl <| r_iconst F d_N_copy_36 (by decide) <| r_callV F h1 (co_N_meets (by decide +kernel) (by decide +kernel)) ⟨rfl, by decide +kernel⟩ ⟨rfl, by decide⟩ ml_N_156 im_N_meets se_N_meets d_N_copy_37 <| r_ireturn F hr hlk d_N_copy_40
theorem o_N_copy_26 {X : ra_X} {p : Program} {l : Launch} {e : Env} {s : State} {m : MethodId} {args : Array Value} {below : List Frame} {meth : Method} {c : Code} {Z : ra_R} {c0 c1 : ra_Sp}  (h0 : ra_MOK l X mi_N_isSheet c0) (h1 : ra_MOK l X mi_N_meets c1) (F : ra_Fx X p rm_N_copy s m args c prog_13_method_72_code 7 cn_N) (hr : meth.sig.returnType = (some .int)) (hlk : meth.locks = false) {I : Nat → ra_K} (hI : ∀ t ∈ [120, 157], ra_At X p l e rm_N_copy s m args below meth c 7 (MQ below (ra_Qc X Z) args s 0 0 (ra_A X)) (I t) t) : ra_At X p l e rm_N_copy s m args below meth c 7 (MQ below (ra_Qc X Z) args s 0 0 (ra_A X)) (b_N_copy_26 c0 c1 I Z) 26 :=
  r_aload_n F d_N_copy_26 rfl <| r_getR F cg_N (j := 28) (by decide) rfl fl_N_85 d_N_copy_27 <| r_iload_n F d_N_copy_30 rfl <| r_baload F d_N_copy_31 <| r_if_ne F d_N_copy_32 (by decide) (o_N_copy_41 h0 h1 F hr hlk hI) (o_N_copy_35 h0 h1 F hr hlk hI)
theorem o_N_copy_17 {X : ra_X} {p : Program} {l : Launch} {e : Env} {s : State} {m : MethodId} {args : Array Value} {below : List Frame} {meth : Method} {c : Code} {Z : ra_R} {c0 c1 : ra_Sp}  (h0 : ra_MOK l X mi_N_isSheet c0) (h1 : ra_MOK l X mi_N_meets c1) (F : ra_Fx X p rm_N_copy s m args c prog_13_method_72_code 7 cn_N) (hr : meth.sig.returnType = (some .int)) (hlk : meth.locks = false) {I : Nat → ra_K} (hI : ∀ t ∈ [120, 157], ra_At X p l e rm_N_copy s m args below meth c 7 (MQ below (ra_Qc X Z) args s 0 0 (ra_A X)) (I t) t) : ra_At X p l e rm_N_copy s m args below meth c 7 (MQ below (ra_Qc X Z) args s 0 0 (ra_A X)) (b_N_copy_17 c0 c1 I Z) 17 :=
  r_aload_n F d_N_copy_17 rfl <| r_getR F cg_N (j := 28) (by decide) rfl fl_N_85 d_N_copy_18 <| r_iload_n F d_N_copy_21 rfl <| r_baload F d_N_copy_22 <| r_if_eq F d_N_copy_23 (by decide) (o_N_copy_35 h0 h1 F hr hlk hI) (o_N_copy_26 h0 h1 F hr hlk hI)
theorem o_N_copy_14 {X : ra_X} {p : Program} {l : Launch} {e : Env} {s : State} {m : MethodId} {args : Array Value} {below : List Frame} {meth : Method} {c : Code} {Z : ra_R} {c0 c1 : ra_Sp}  (h0 : ra_MOK l X mi_N_isSheet c0) (h1 : ra_MOK l X mi_N_meets c1) (F : ra_Fx X p rm_N_copy s m args c prog_13_method_72_code 7 cn_N) (hr : meth.sig.returnType = (some .int)) (hlk : meth.locks = false) {I : Nat → ra_K} (hI : ∀ t ∈ [120, 157], ra_At X p l e rm_N_copy s m args below meth c 7 (MQ below (ra_Qc X Z) args s 0 0 (ra_A X)) (I t) t) : ra_At X p l e rm_N_copy s m args below meth c 7 (MQ below (ra_Qc X Z) args s 0 0 (ra_A X)) (b_N_copy_14 c0 c1 I Z) 14 :=
  r_bipush F d_N_copy_14 (by decide) <| r_ireturn F hr hlk d_N_copy_16
theorem o_N_copy_7 {X : ra_X} {p : Program} {l : Launch} {e : Env} {s : State} {m : MethodId} {args : Array Value} {below : List Frame} {meth : Method} {c : Code} {Z : ra_R} {c0 c1 : ra_Sp}  (h0 : ra_MOK l X mi_N_isSheet c0) (h1 : ra_MOK l X mi_N_meets c1) (F : ra_Fx X p rm_N_copy s m args c prog_13_method_72_code 7 cn_N) (hr : meth.sig.returnType = (some .int)) (hlk : meth.locks = false) {I : Nat → ra_K} (hI : ∀ t ∈ [120, 157], ra_At X p l e rm_N_copy s m args below meth c 7 (MQ below (ra_Qc X Z) args s 0 0 (ra_A X)) (I t) t) : ra_At X p l e rm_N_copy s m args below meth c 7 (MQ below (ra_Qc X Z) args s 0 0 (ra_A X)) (b_N_copy_7 c0 c1 I Z) 7 :=
  r_iload_n F d_N_copy_7 rfl <| r_callS F h0 (co_N_isSheet (by decide +kernel) (by decide +kernel)) ⟨rfl, by decide +kernel⟩ ml_N_153 st_N_isSheet d_N_copy_8 <| r_if_ne F d_N_copy_11 (by decide) (o_N_copy_17 h0 h1 F hr hlk hI) (o_N_copy_14 h0 h1 F hr hlk hI)
theorem o_N_copy_0 {X : ra_X} {p : Program} {l : Launch} {e : Env} {s : State} {m : MethodId} {args : Array Value} {below : List Frame} {meth : Method} {c : Code} {Z : ra_R} {c0 c1 : ra_Sp}  (h0 : ra_MOK l X mi_N_isSheet c0) (h1 : ra_MOK l X mi_N_meets c1) (F : ra_Fx X p rm_N_copy s m args c prog_13_method_72_code 7 cn_N) (hr : meth.sig.returnType = (some .int)) (hlk : meth.locks = false) {I : Nat → ra_K} (hI : ∀ t ∈ [120, 157], ra_At X p l e rm_N_copy s m args below meth c 7 (MQ below (ra_Qc X Z) args s 0 0 (ra_A X)) (I t) t) : ra_At X p l e rm_N_copy s m args below meth c 7 (MQ below (ra_Qc X Z) args s 0 0 (ra_A X)) (b_N_copy_0 c0 c1 I Z) 0 :=
  r_iload_n F d_N_copy_0 rfl <| r_callS F h0 (co_N_isSheet (by decide +kernel) (by decide +kernel)) ⟨rfl, by decide +kernel⟩ ml_N_153 st_N_isSheet d_N_copy_1 <| r_if_eq F d_N_copy_4 (by decide) (o_N_copy_14 h0 h1 F hr hlk hI) (o_N_copy_7 h0 h1 F hr hlk hI)
theorem g_N_copy {l : Launch} {X : ra_X} {c0 c1 : ra_Sp}  (h0 : ra_MOK l X mi_N_isSheet c0) (h1 : ra_MOK l X mi_N_meets c1) (sp : ra_Sp) (I : ra_R → List Value → ra_St → Nat → ra_M → ra_K) (ve : ∀ as σ Z, ra_c1 as = true → as.length = 6 → sp as σ Z → b_N_copy_0 c0 c1 (ra_I (I Z as σ)) Z (ra_pad 7 as) [] σ) (v120 : ∀ as σ Z, sp as σ Z → ∀ μ L S σ1, I Z as σ 120 μ L S σ1 → b_N_copy_120 c0 c1 (ra_J (I Z as σ) μ) Z L S σ1) (v157 : ∀ as σ Z, sp as σ Z → ∀ μ L S σ1, I Z as σ 157 μ L S σ1 → b_N_copy_157 c0 c1 (ra_J (I Z as σ) μ) Z L S σ1) : ra_MOK l X mi_N_copy sp := by
  refine ra_enter (k := fun Z as σ => b_N_copy_0 c0 c1 (ra_I (I Z as σ)) Z) cn_N rfl (by decide +kernel) ⟨by decide +kernel, by decide +kernel⟩ (by decide +kernel) ?_ ve
  intro p e s m args below meth c Z as σ hsp F hr hlk
  refine o_N_copy_0 h0 h1 F hr hlk (ra_cuts (b := fun t J => if t = 120 then b_N_copy_120 c0 c1 J Z else if t = 157 then b_N_copy_157 c0 c1 J Z else fun _ _ _ => False) ?_ ?_)
  · intro t ht J hJ
    simp only [List.mem_cons, List.not_mem_nil, or_false] at ht
    rcases ht with rfl | rfl
    · exact o_N_copy_120 h0 h1 F hr hlk hJ
    · exact o_N_copy_157 h0 h1 F hr hlk hJ
  · intro t ht μ L S σ1 hI
    simp only [List.mem_cons, List.not_mem_nil, or_false] at ht
    rcases ht with rfl | rfl
    · exact v120 as σ Z hsp μ L S σ1 hI
    · exact v157 as σ Z hsp μ L S σ1 hI

theorem d_N_write_0 : decode prog_13_method_73_code 0 = .ok (.iload_n 1, 1) := by decide +kernel
theorem d_N_write_1 : decode prog_13_method_73_code 1 = .ok (.invokestatic 153, 3) := by decide +kernel
theorem d_N_write_4 : decode prog_13_method_73_code 4 = .ok (.ifCond .ne 6, 3) := by decide +kernel
theorem d_N_write_7 : decode prog_13_method_73_code 7 = .ok (.bipush (-2), 2) := by decide +kernel
theorem d_N_write_9 : decode prog_13_method_73_code 9 = .ok (.ireturn, 1) := by decide +kernel
theorem d_N_write_10 : decode prog_13_method_73_code 10 = .ok (.aload_n 0, 1) := by decide +kernel
theorem d_N_write_11 : decode prog_13_method_73_code 11 = .ok (.getfield 85, 3) := by decide +kernel
theorem d_N_write_14 : decode prog_13_method_73_code 14 = .ok (.iload_n 1, 1) := by decide +kernel
theorem d_N_write_15 : decode prog_13_method_73_code 15 = .ok (.baload, 1) := by decide +kernel
theorem d_N_write_16 : decode prog_13_method_73_code 16 = .ok (.ifCond .ne 9, 3) := by decide +kernel
theorem d_N_write_19 : decode prog_13_method_73_code 19 = .ok (.aload_n 0, 1) := by decide +kernel
theorem d_N_write_20 : decode prog_13_method_73_code 20 = .ok (.iconst 1, 1) := by decide +kernel
theorem d_N_write_21 : decode prog_13_method_73_code 21 = .ok (.invokevirtual 156, 3) := by decide +kernel
theorem d_N_write_24 : decode prog_13_method_73_code 24 = .ok (.ireturn, 1) := by decide +kernel
theorem d_N_write_25 : decode prog_13_method_73_code 25 = .ok (.aload_n 0, 1) := by decide +kernel
theorem d_N_write_26 : decode prog_13_method_73_code 26 = .ok (.aload_n 0, 1) := by decide +kernel
theorem d_N_write_27 : decode prog_13_method_73_code 27 = .ok (.getfield 147, 3) := by decide +kernel
theorem d_N_write_30 : decode prog_13_method_73_code 30 = .ok (.invokevirtual 166, 3) := by decide +kernel
theorem d_N_write_33 : decode prog_13_method_73_code 33 = .ok (.iconst 0, 1) := by decide +kernel
theorem d_N_write_34 : decode prog_13_method_73_code 34 = .ok (.istore_n 2, 1) := by decide +kernel
theorem d_N_write_35 : decode prog_13_method_73_code 35 = .ok (.iload_n 2, 1) := by decide +kernel
theorem d_N_write_36 : decode prog_13_method_73_code 36 = .ok (.aload_n 0, 1) := by decide +kernel
theorem d_N_write_37 : decode prog_13_method_73_code 37 = .ok (.getfield 92, 3) := by decide +kernel
theorem d_N_write_40 : decode prog_13_method_73_code 40 = .ok (.iload_n 1, 1) := by decide +kernel
theorem d_N_write_41 : decode prog_13_method_73_code 41 = .ok (.iaload, 1) := by decide +kernel
theorem d_N_write_42 : decode prog_13_method_73_code 42 = .ok (.if_icmp .ge 29, 3) := by decide +kernel
theorem d_N_write_45 : decode prog_13_method_73_code 45 = .ok (.iload_n 2, 1) := by decide +kernel
theorem d_N_write_46 : decode prog_13_method_73_code 46 = .ok (.aload_n 0, 1) := by decide +kernel
theorem d_N_write_47 : decode prog_13_method_73_code 47 = .ok (.getfield 109, 3) := by decide +kernel
theorem d_N_write_50 : decode prog_13_method_73_code 50 = .ok (.if_icmp .ge 21, 3) := by decide +kernel
theorem d_N_write_53 : decode prog_13_method_73_code 53 = .ok (.aload_n 0, 1) := by decide +kernel
theorem d_N_write_54 : decode prog_13_method_73_code 54 = .ok (.iload_n 1, 1) := by decide +kernel
theorem d_N_write_55 : decode prog_13_method_73_code 55 = .ok (.iload_n 2, 1) := by decide +kernel
theorem d_N_write_56 : decode prog_13_method_73_code 56 = .ok (.aload_n 0, 1) := by decide +kernel
theorem d_N_write_57 : decode prog_13_method_73_code 57 = .ok (.getfield 46, 3) := by decide +kernel
theorem d_N_write_60 : decode prog_13_method_73_code 60 = .ok (.iload_n 2, 1) := by decide +kernel
theorem d_N_write_61 : decode prog_13_method_73_code 61 = .ok (.iaload, 1) := by decide +kernel
theorem d_N_write_62 : decode prog_13_method_73_code 62 = .ok (.invokevirtual 236, 3) := by decide +kernel
theorem d_N_write_65 : decode prog_13_method_73_code 65 = .ok (.iinc 2 1, 3) := by decide +kernel
theorem d_N_write_68 : decode prog_13_method_73_code 68 = .ok (.goto (-33), 3) := by decide +kernel
theorem d_N_write_71 : decode prog_13_method_73_code 71 = .ok (.iload_n 2, 1) := by decide +kernel
theorem d_N_write_72 : decode prog_13_method_73_code 72 = .ok (.ireturn, 1) := by decide +kernel
def b_N_write_71 (c0 c1 c2 c3 : ra_Sp) (I : Nat → ra_K) (Z : ra_R) : ra_K := w_il 2 <| w_ir Z
def b_N_write_53 (c0 c1 c2 c3 : ra_Sp) (I : Nat → ra_K) (Z : ra_R) : ra_K := w_al 0 <| w_il 1 <| w_il 2 <| w_al 0 <| w_gr 11 14 <| w_il 2 <| w_ald <| w_cv c3 4 11 <| w_inc 2 1 <| (I 35)
def b_N_write_45 (c0 c1 c2 c3 : ra_Sp) (I : Nat → ra_K) (Z : ra_R) : ra_K := w_il 2 <| w_al 0 <| w_gi 11 2 <| w_b2 (fun x y => y ≤ x) (b_N_write_71 c0 c1 c2 c3 I Z) (b_N_write_53 c0 c1 c2 c3 I Z)
def b_N_write_35 (c0 c1 c2 c3 : ra_Sp) (I : Nat → ra_K) (Z : ra_R) : ra_K := w_il 2 <| w_al 0 <| w_gr 11 30 <| w_il 1 <| w_ald <| w_b2 (fun x y => y ≤ x) (b_N_write_71 c0 c1 c2 c3 I Z) (b_N_write_45 c0 c1 c2 c3 I Z)
def b_N_write_25 (c0 c1 c2 c3 : ra_Sp) (I : Nat → ra_K) (Z : ra_R) : ra_K := w_al 0 <| w_al 0 <| w_gi 11 7 <| w_cv c2 2 11 <| w_c 0 <| w_is 2 <| (I 35)
def b_N_write_19 (c0 c1 c2 c3 : ra_Sp) (I : Nat → ra_K) (Z : ra_R) : ra_K := w_al 0 <| w_c 1 <| w_cv c1 2 11 <| w_ir Z
def b_N_write_10 (c0 c1 c2 c3 : ra_Sp) (I : Nat → ra_K) (Z : ra_R) : ra_K := w_al 0 <| w_gr 11 28 <| w_il 1 <| w_zld <| w_b1 (fun x => x = 0) (b_N_write_19 c0 c1 c2 c3 I Z) (b_N_write_25 c0 c1 c2 c3 I Z)
def b_N_write_7 (c0 c1 c2 c3 : ra_Sp) (I : Nat → ra_K) (Z : ra_R) : ra_K := w_c (-2) <| w_ir Z
def b_N_write_0 (c0 c1 c2 c3 : ra_Sp) (I : Nat → ra_K) (Z : ra_R) : ra_K := w_il 1 <| w_cs c0 1 <| w_b1 (fun x => x = 0) (b_N_write_7 c0 c1 c2 c3 I Z) (b_N_write_10 c0 c1 c2 c3 I Z)
theorem o_N_write_71 {X : ra_X} {p : Program} {l : Launch} {e : Env} {s : State} {m : MethodId} {args : Array Value} {below : List Frame} {meth : Method} {c : Code} {Z : ra_R} {c0 c1 c2 c3 : ra_Sp}  (h0 : ra_MOK l X mi_N_isSheet c0) (h1 : ra_MOK l X mi_N_meets c1) (h2 : ra_MOK l X mi_N_lays c2) (h3 : ra_MOK l X mi_N_keep c3) (F : ra_Fx X p rm_N_write s m args c prog_13_method_73_code 3 cn_N) (hr : meth.sig.returnType = (some .int)) (hlk : meth.locks = false) {I : Nat → ra_K} (hI : ∀ t ∈ [35], ra_At X p l e rm_N_write s m args below meth c 3 (MQ below (ra_Qc X Z) args s 0 0 (ra_A X)) (I t) t) : ra_At X p l e rm_N_write s m args below meth c 3 (MQ below (ra_Qc X Z) args s 0 0 (ra_A X)) (b_N_write_71 c0 c1 c2 c3 I Z) 71 :=
  r_iload_n F d_N_write_71 rfl <| r_ireturn F hr hlk d_N_write_72
theorem o_N_write_53 {X : ra_X} {p : Program} {l : Launch} {e : Env} {s : State} {m : MethodId} {args : Array Value} {below : List Frame} {meth : Method} {c : Code} {Z : ra_R} {c0 c1 c2 c3 : ra_Sp}  (h0 : ra_MOK l X mi_N_isSheet c0) (h1 : ra_MOK l X mi_N_meets c1) (h2 : ra_MOK l X mi_N_lays c2) (h3 : ra_MOK l X mi_N_keep c3) (F : ra_Fx X p rm_N_write s m args c prog_13_method_73_code 3 cn_N) (hr : meth.sig.returnType = (some .int)) (hlk : meth.locks = false) {I : Nat → ra_K} (hI : ∀ t ∈ [35], ra_At X p l e rm_N_write s m args below meth c 3 (MQ below (ra_Qc X Z) args s 0 0 (ra_A X)) (I t) t) : ra_At X p l e rm_N_write s m args below meth c 3 (MQ below (ra_Qc X Z) args s 0 0 (ra_A X)) (b_N_write_53 c0 c1 c2 c3 I Z) 53 :=
  r_aload_n F d_N_write_53 rfl <| r_iload_n F d_N_write_54 rfl <| r_iload_n F d_N_write_55 rfl <| r_aload_n F d_N_write_56 rfl <| r_getR F cg_N (j := 14) (by decide) rfl fl_N_46 d_N_write_57 <| r_iload_n F d_N_write_60 rfl <| r_iaload F d_N_write_61 <| r_callV F h3 (co_N_keep (by decide +kernel) (by decide +kernel)) ⟨rfl, by decide +kernel⟩ ⟨rfl, by decide⟩ ml_N_236 im_N_keep se_N_keep d_N_write_62 <| r_iinc F d_N_write_65 (by decide) (by decide) <| r_goto F d_N_write_68 (by decide) (hI 35 (by decide))
theorem o_N_write_45 {X : ra_X} {p : Program} {l : Launch} {e : Env} {s : State} {m : MethodId} {args : Array Value} {below : List Frame} {meth : Method} {c : Code} {Z : ra_R} {c0 c1 c2 c3 : ra_Sp}  (h0 : ra_MOK l X mi_N_isSheet c0) (h1 : ra_MOK l X mi_N_meets c1) (h2 : ra_MOK l X mi_N_lays c2) (h3 : ra_MOK l X mi_N_keep c3) (F : ra_Fx X p rm_N_write s m args c prog_13_method_73_code 3 cn_N) (hr : meth.sig.returnType = (some .int)) (hlk : meth.locks = false) {I : Nat → ra_K} (hI : ∀ t ∈ [35], ra_At X p l e rm_N_write s m args below meth c 3 (MQ below (ra_Qc X Z) args s 0 0 (ra_A X)) (I t) t) : ra_At X p l e rm_N_write s m args below meth c 3 (MQ below (ra_Qc X Z) args s 0 0 (ra_A X)) (b_N_write_45 c0 c1 c2 c3 I Z) 45 :=
  r_iload_n F d_N_write_45 rfl <| r_aload_n F d_N_write_46 rfl <| r_getI F cg_N (j := 2) (by decide) rfl fl_N_109 d_N_write_47 <| r_icmp_ge F d_N_write_50 (by decide) (o_N_write_71 h0 h1 h2 h3 F hr hlk hI) (o_N_write_53 h0 h1 h2 h3 F hr hlk hI)
theorem o_N_write_35 {X : ra_X} {p : Program} {l : Launch} {e : Env} {s : State} {m : MethodId} {args : Array Value} {below : List Frame} {meth : Method} {c : Code} {Z : ra_R} {c0 c1 c2 c3 : ra_Sp}  (h0 : ra_MOK l X mi_N_isSheet c0) (h1 : ra_MOK l X mi_N_meets c1) (h2 : ra_MOK l X mi_N_lays c2) (h3 : ra_MOK l X mi_N_keep c3) (F : ra_Fx X p rm_N_write s m args c prog_13_method_73_code 3 cn_N) (hr : meth.sig.returnType = (some .int)) (hlk : meth.locks = false) {I : Nat → ra_K} (hI : ∀ t ∈ [35], ra_At X p l e rm_N_write s m args below meth c 3 (MQ below (ra_Qc X Z) args s 0 0 (ra_A X)) (I t) t) : ra_At X p l e rm_N_write s m args below meth c 3 (MQ below (ra_Qc X Z) args s 0 0 (ra_A X)) (b_N_write_35 c0 c1 c2 c3 I Z) 35 :=
  r_iload_n F d_N_write_35 rfl <| r_aload_n F d_N_write_36 rfl <| r_getR F cg_N (j := 30) (by decide) rfl fl_N_92 d_N_write_37 <| r_iload_n F d_N_write_40 rfl <| r_iaload F d_N_write_41 <| r_icmp_ge F d_N_write_42 (by decide) (o_N_write_71 h0 h1 h2 h3 F hr hlk hI) (o_N_write_45 h0 h1 h2 h3 F hr hlk hI)
theorem o_N_write_25 {X : ra_X} {p : Program} {l : Launch} {e : Env} {s : State} {m : MethodId} {args : Array Value} {below : List Frame} {meth : Method} {c : Code} {Z : ra_R} {c0 c1 c2 c3 : ra_Sp}  (h0 : ra_MOK l X mi_N_isSheet c0) (h1 : ra_MOK l X mi_N_meets c1) (h2 : ra_MOK l X mi_N_lays c2) (h3 : ra_MOK l X mi_N_keep c3) (F : ra_Fx X p rm_N_write s m args c prog_13_method_73_code 3 cn_N) (hr : meth.sig.returnType = (some .int)) (hlk : meth.locks = false) {I : Nat → ra_K} (hI : ∀ t ∈ [35], ra_At X p l e rm_N_write s m args below meth c 3 (MQ below (ra_Qc X Z) args s 0 0 (ra_A X)) (I t) t) : ra_At X p l e rm_N_write s m args below meth c 3 (MQ below (ra_Qc X Z) args s 0 0 (ra_A X)) (b_N_write_25 c0 c1 c2 c3 I Z) 25 :=
  r_aload_n F d_N_write_25 rfl <| r_aload_n F d_N_write_26 rfl <| r_getI F cg_N (j := 7) (by decide) rfl fl_N_147 d_N_write_27 <| r_callV F h2 (co_N_lays (by decide +kernel) (by decide +kernel)) ⟨rfl, by decide +kernel⟩ ⟨rfl, by decide⟩ ml_N_166 im_N_lays se_N_lays d_N_write_30 <| r_iconst F d_N_write_33 (by decide) <| r_istore_n F d_N_write_34 rfl (by decide) <| (hI 35 (by decide))
theorem o_N_write_19 {X : ra_X} {p : Program} {l : Launch} {e : Env} {s : State} {m : MethodId} {args : Array Value} {below : List Frame} {meth : Method} {c : Code} {Z : ra_R} {c0 c1 c2 c3 : ra_Sp}  (h0 : ra_MOK l X mi_N_isSheet c0) (h1 : ra_MOK l X mi_N_meets c1) (h2 : ra_MOK l X mi_N_lays c2) (h3 : ra_MOK l X mi_N_keep c3) (F : ra_Fx X p rm_N_write s m args c prog_13_method_73_code 3 cn_N) (hr : meth.sig.returnType = (some .int)) (hlk : meth.locks = false) {I : Nat → ra_K} (hI : ∀ t ∈ [35], ra_At X p l e rm_N_write s m args below meth c 3 (MQ below (ra_Qc X Z) args s 0 0 (ra_A X)) (I t) t) : ra_At X p l e rm_N_write s m args below meth c 3 (MQ below (ra_Qc X Z) args s 0 0 (ra_A X)) (b_N_write_19 c0 c1 c2 c3 I Z) 19 :=
  r_aload_n F d_N_write_19 rfl <| r_iconst F d_N_write_20 (by decide) <| r_callV F h1 (co_N_meets (by decide +kernel) (by decide +kernel)) ⟨rfl, by decide +kernel⟩ ⟨rfl, by decide⟩ ml_N_156 im_N_meets se_N_meets d_N_write_21 <| r_ireturn F hr hlk d_N_write_24
theorem o_N_write_10 {X : ra_X} {p : Program} {l : Launch} {e : Env} {s : State} {m : MethodId} {args : Array Value} {below : List Frame} {meth : Method} {c : Code} {Z : ra_R} {c0 c1 c2 c3 : ra_Sp}  (h0 : ra_MOK l X mi_N_isSheet c0) (h1 : ra_MOK l X mi_N_meets c1) (h2 : ra_MOK l X mi_N_lays c2) (h3 : ra_MOK l X mi_N_keep c3) (F : ra_Fx X p rm_N_write s m args c prog_13_method_73_code 3 cn_N) (hr : meth.sig.returnType = (some .int)) (hlk : meth.locks = false) {I : Nat → ra_K} (hI : ∀ t ∈ [35], ra_At X p l e rm_N_write s m args below meth c 3 (MQ below (ra_Qc X Z) args s 0 0 (ra_A X)) (I t) t) : ra_At X p l e rm_N_write s m args below meth c 3 (MQ below (ra_Qc X Z) args s 0 0 (ra_A X)) (b_N_write_10 c0 c1 c2 c3 I Z) 10 :=
  r_aload_n F d_N_write_10 rfl <| r_getR F cg_N (j := 28) (by decide) rfl fl_N_85 d_N_write_11 <| r_iload_n F d_N_write_14 rfl <| r_baload F d_N_write_15 <| r_if_ne F d_N_write_16 (by decide) (o_N_write_25 h0 h1 h2 h3 F hr hlk hI) (o_N_write_19 h0 h1 h2 h3 F hr hlk hI)
theorem o_N_write_7 {X : ra_X} {p : Program} {l : Launch} {e : Env} {s : State} {m : MethodId} {args : Array Value} {below : List Frame} {meth : Method} {c : Code} {Z : ra_R} {c0 c1 c2 c3 : ra_Sp}  (h0 : ra_MOK l X mi_N_isSheet c0) (h1 : ra_MOK l X mi_N_meets c1) (h2 : ra_MOK l X mi_N_lays c2) (h3 : ra_MOK l X mi_N_keep c3) (F : ra_Fx X p rm_N_write s m args c prog_13_method_73_code 3 cn_N) (hr : meth.sig.returnType = (some .int)) (hlk : meth.locks = false) {I : Nat → ra_K} (hI : ∀ t ∈ [35], ra_At X p l e rm_N_write s m args below meth c 3 (MQ below (ra_Qc X Z) args s 0 0 (ra_A X)) (I t) t) : ra_At X p l e rm_N_write s m args below meth c 3 (MQ below (ra_Qc X Z) args s 0 0 (ra_A X)) (b_N_write_7 c0 c1 c2 c3 I Z) 7 :=
  r_bipush F d_N_write_7 (by decide) <| r_ireturn F hr hlk d_N_write_9
theorem o_N_write_0 {X : ra_X} {p : Program} {l : Launch} {e : Env} {s : State} {m : MethodId} {args : Array Value} {below : List Frame} {meth : Method} {c : Code} {Z : ra_R} {c0 c1 c2 c3 : ra_Sp}  (h0 : ra_MOK l X mi_N_isSheet c0) (h1 : ra_MOK l X mi_N_meets c1) (h2 : ra_MOK l X mi_N_lays c2) (h3 : ra_MOK l X mi_N_keep c3) (F : ra_Fx X p rm_N_write s m args c prog_13_method_73_code 3 cn_N) (hr : meth.sig.returnType = (some .int)) (hlk : meth.locks = false) {I : Nat → ra_K} (hI : ∀ t ∈ [35], ra_At X p l e rm_N_write s m args below meth c 3 (MQ below (ra_Qc X Z) args s 0 0 (ra_A X)) (I t) t) : ra_At X p l e rm_N_write s m args below meth c 3 (MQ below (ra_Qc X Z) args s 0 0 (ra_A X)) (b_N_write_0 c0 c1 c2 c3 I Z) 0 :=
  r_iload_n F d_N_write_0 rfl <| r_callS F h0 (co_N_isSheet (by decide +kernel) (by decide +kernel)) ⟨rfl, by decide +kernel⟩ ml_N_153 st_N_isSheet d_N_write_1 <| r_if_ne F d_N_write_4 (by decide) (o_N_write_10 h0 h1 h2 h3 F hr hlk hI) (o_N_write_7 h0 h1 h2 h3 F hr hlk hI)
theorem g_N_write {l : Launch} {X : ra_X} {c0 c1 c2 c3 : ra_Sp}  (h0 : ra_MOK l X mi_N_isSheet c0) (h1 : ra_MOK l X mi_N_meets c1) (h2 : ra_MOK l X mi_N_lays c2) (h3 : ra_MOK l X mi_N_keep c3) (sp : ra_Sp) (I : ra_R → List Value → ra_St → Nat → ra_M → ra_K) (ve : ∀ as σ Z, ra_c1 as = true → as.length = 2 → sp as σ Z → b_N_write_0 c0 c1 c2 c3 (ra_I (I Z as σ)) Z (ra_pad 3 as) [] σ) (v35 : ∀ as σ Z, sp as σ Z → ∀ μ L S σ1, I Z as σ 35 μ L S σ1 → b_N_write_35 c0 c1 c2 c3 (ra_J (I Z as σ) μ) Z L S σ1) : ra_MOK l X mi_N_write sp := by
  refine ra_enter (k := fun Z as σ => b_N_write_0 c0 c1 c2 c3 (ra_I (I Z as σ)) Z) cn_N rfl (by decide +kernel) ⟨by decide +kernel, by decide +kernel⟩ (by decide +kernel) ?_ ve
  intro p e s m args below meth c Z as σ hsp F hr hlk
  refine o_N_write_0 h0 h1 h2 h3 F hr hlk (ra_cuts (b := fun t J => if t = 35 then b_N_write_35 c0 c1 c2 c3 J Z else fun _ _ _ => False) ?_ ?_)
  · intro t ht J hJ
    simp only [List.mem_cons, List.not_mem_nil, or_false] at ht
    rcases ht with rfl
    · exact o_N_write_35 h0 h1 h2 h3 F hr hlk hJ
  · intro t ht μ L S σ1 hI
    simp only [List.mem_cons, List.not_mem_nil, or_false] at ht
    rcases ht with rfl
    · exact v35 as σ Z hsp μ L S σ1 hI

theorem d_N_sumOf_0 : decode prog_13_method_74_code 0 = .ok (.aload_n 0, 1) := by decide +kernel
theorem d_N_sumOf_1 : decode prog_13_method_74_code 1 = .ok (.invokevirtual 134, 3) := by decide +kernel
theorem d_N_sumOf_4 : decode prog_13_method_74_code 4 = .ok (.iconst 0, 1) := by decide +kernel
theorem d_N_sumOf_5 : decode prog_13_method_74_code 5 = .ok (.istore_n 2, 1) := by decide +kernel
theorem d_N_sumOf_6 : decode prog_13_method_74_code 6 = .ok (.iconst 0, 1) := by decide +kernel
theorem d_N_sumOf_7 : decode prog_13_method_74_code 7 = .ok (.istore_n 3, 1) := by decide +kernel
theorem d_N_sumOf_8 : decode prog_13_method_74_code 8 = .ok (.iconst 0, 1) := by decide +kernel
theorem d_N_sumOf_9 : decode prog_13_method_74_code 9 = .ok (.istore 4, 2) := by decide +kernel
theorem d_N_sumOf_11 : decode prog_13_method_74_code 11 = .ok (.iload 4, 2) := by decide +kernel
theorem d_N_sumOf_13 : decode prog_13_method_74_code 13 = .ok (.aload_n 0, 1) := by decide +kernel
theorem d_N_sumOf_14 : decode prog_13_method_74_code 14 = .ok (.getfield 109, 3) := by decide +kernel
theorem d_N_sumOf_17 : decode prog_13_method_74_code 17 = .ok (.if_icmp .ge 35, 3) := by decide +kernel
theorem d_N_sumOf_20 : decode prog_13_method_74_code 20 = .ok (.iload_n 3, 1) := by decide +kernel
theorem d_N_sumOf_21 : decode prog_13_method_74_code 21 = .ok (.iload_n 2, 1) := by decide +kernel
theorem d_N_sumOf_22 : decode prog_13_method_74_code 22 = .ok (.iload 4, 2) := by decide +kernel
theorem d_N_sumOf_24 : decode prog_13_method_74_code 24 = .ok (.invokestatic 116, 3) := by decide +kernel
theorem d_N_sumOf_27 : decode prog_13_method_74_code 27 = .ok (.ifCond .eq 7, 3) := by decide +kernel
theorem d_N_sumOf_30 : decode prog_13_method_74_code 30 = .ok (.iconst 0, 1) := by decide +kernel
theorem d_N_sumOf_31 : decode prog_13_method_74_code 31 = .ok (.goto 4, 3) := by decide +kernel
theorem d_N_sumOf_34 : decode prog_13_method_74_code 34 = .ok (.iconst 1, 1) := by decide +kernel
theorem d_N_sumOf_35 : decode prog_13_method_74_code 35 = .ok (.iadd, 1) := by decide +kernel
theorem d_N_sumOf_36 : decode prog_13_method_74_code 36 = .ok (.istore_n 3, 1) := by decide +kernel
theorem d_N_sumOf_37 : decode prog_13_method_74_code 37 = .ok (.iload_n 2, 1) := by decide +kernel
theorem d_N_sumOf_38 : decode prog_13_method_74_code 38 = .ok (.aload_n 0, 1) := by decide +kernel
theorem d_N_sumOf_39 : decode prog_13_method_74_code 39 = .ok (.iload 4, 2) := by decide +kernel
theorem d_N_sumOf_41 : decode prog_13_method_74_code 41 = .ok (.invokevirtual 179, 3) := by decide +kernel
theorem d_N_sumOf_44 : decode prog_13_method_74_code 44 = .ok (.ior, 1) := by decide +kernel
theorem d_N_sumOf_45 : decode prog_13_method_74_code 45 = .ok (.istore_n 2, 1) := by decide +kernel
theorem d_N_sumOf_46 : decode prog_13_method_74_code 46 = .ok (.iinc 4 1, 3) := by decide +kernel
theorem d_N_sumOf_49 : decode prog_13_method_74_code 49 = .ok (.goto (-38), 3) := by decide +kernel
theorem d_N_sumOf_52 : decode prog_13_method_74_code 52 = .ok (.iload_n 1, 1) := by decide +kernel
theorem d_N_sumOf_53 : decode prog_13_method_74_code 53 = .ok (.ifCond .ne 10, 3) := by decide +kernel
theorem d_N_sumOf_56 : decode prog_13_method_74_code 56 = .ok (.aload_n 0, 1) := by decide +kernel
theorem d_N_sumOf_57 : decode prog_13_method_74_code 57 = .ok (.getfield 109, 3) := by decide +kernel
theorem d_N_sumOf_60 : decode prog_13_method_74_code 60 = .ok (.goto 4, 3) := by decide +kernel
theorem d_N_sumOf_63 : decode prog_13_method_74_code 63 = .ok (.iload_n 3, 1) := by decide +kernel
theorem d_N_sumOf_64 : decode prog_13_method_74_code 64 = .ok (.ireturn, 1) := by decide +kernel
def b_N_sumOf_64 (c0 c1 c2 : ra_Sp) (I : Nat → ra_K) (Z : ra_R) : ra_K := w_ir Z
def b_N_sumOf_63 (c0 c1 c2 : ra_Sp) (I : Nat → ra_K) (Z : ra_R) : ra_K := w_il 3 <| (b_N_sumOf_64 c0 c1 c2 I Z)
def b_N_sumOf_56 (c0 c1 c2 : ra_Sp) (I : Nat → ra_K) (Z : ra_R) : ra_K := w_al 0 <| w_gi 11 2 <| (b_N_sumOf_64 c0 c1 c2 I Z)
def b_N_sumOf_52 (c0 c1 c2 : ra_Sp) (I : Nat → ra_K) (Z : ra_R) : ra_K := w_il 1 <| w_b1 (fun x => x = 0) (b_N_sumOf_56 c0 c1 c2 I Z) (b_N_sumOf_63 c0 c1 c2 I Z)
def b_N_sumOf_35 (c0 c1 c2 : ra_Sp) (I : Nat → ra_K) (Z : ra_R) : ra_K := w_i2 (fun x y => x + y) <| w_is 3 <| w_il 2 <| w_al 0 <| w_il 4 <| w_cv c2 2 11 <| w_i2 (fun x y => x ||| y) <| w_is 2 <| w_inc 4 1 <| (I 11)
def b_N_sumOf_34 (c0 c1 c2 : ra_Sp) (I : Nat → ra_K) (Z : ra_R) : ra_K := w_c 1 <| (b_N_sumOf_35 c0 c1 c2 I Z)
def b_N_sumOf_30 (c0 c1 c2 : ra_Sp) (I : Nat → ra_K) (Z : ra_R) : ra_K := w_c 0 <| (b_N_sumOf_35 c0 c1 c2 I Z)
def b_N_sumOf_20 (c0 c1 c2 : ra_Sp) (I : Nat → ra_K) (Z : ra_R) : ra_K := w_il 3 <| w_il 2 <| w_il 4 <| w_cs c1 2 <| w_b1 (fun x => x = 0) (b_N_sumOf_34 c0 c1 c2 I Z) (b_N_sumOf_30 c0 c1 c2 I Z)
def b_N_sumOf_11 (c0 c1 c2 : ra_Sp) (I : Nat → ra_K) (Z : ra_R) : ra_K := w_il 4 <| w_al 0 <| w_gi 11 2 <| w_b2 (fun x y => y ≤ x) (b_N_sumOf_52 c0 c1 c2 I Z) (b_N_sumOf_20 c0 c1 c2 I Z)
def b_N_sumOf_0 (c0 c1 c2 : ra_Sp) (I : Nat → ra_K) (Z : ra_R) : ra_K := w_al 0 <| w_cv c0 1 11 <| w_c 0 <| w_is 2 <| w_c 0 <| w_is 3 <| w_c 0 <| w_is 4 <| (I 11)
theorem o_N_sumOf_64 {X : ra_X} {p : Program} {l : Launch} {e : Env} {s : State} {m : MethodId} {args : Array Value} {below : List Frame} {meth : Method} {c : Code} {Z : ra_R} {c0 c1 c2 : ra_Sp}  (h0 : ra_MOK l X mi_N_reads c0) (h1 : ra_MOK l X mi_N_isIn c1) (h2 : ra_MOK l X mi_N_ringOf c2) (F : ra_Fx X p rm_N_sumOf s m args c prog_13_method_74_code 5 cn_N) (hr : meth.sig.returnType = (some .int)) (hlk : meth.locks = false) {I : Nat → ra_K} (hI : ∀ t ∈ [11], ra_At X p l e rm_N_sumOf s m args below meth c 5 (MQ below (ra_Qc X Z) args s 0 0 (ra_A X)) (I t) t) : ra_At X p l e rm_N_sumOf s m args below meth c 5 (MQ below (ra_Qc X Z) args s 0 0 (ra_A X)) (b_N_sumOf_64 c0 c1 c2 I Z) 64 :=
  r_ireturn F hr hlk d_N_sumOf_64
theorem o_N_sumOf_63 {X : ra_X} {p : Program} {l : Launch} {e : Env} {s : State} {m : MethodId} {args : Array Value} {below : List Frame} {meth : Method} {c : Code} {Z : ra_R} {c0 c1 c2 : ra_Sp}  (h0 : ra_MOK l X mi_N_reads c0) (h1 : ra_MOK l X mi_N_isIn c1) (h2 : ra_MOK l X mi_N_ringOf c2) (F : ra_Fx X p rm_N_sumOf s m args c prog_13_method_74_code 5 cn_N) (hr : meth.sig.returnType = (some .int)) (hlk : meth.locks = false) {I : Nat → ra_K} (hI : ∀ t ∈ [11], ra_At X p l e rm_N_sumOf s m args below meth c 5 (MQ below (ra_Qc X Z) args s 0 0 (ra_A X)) (I t) t) : ra_At X p l e rm_N_sumOf s m args below meth c 5 (MQ below (ra_Qc X Z) args s 0 0 (ra_A X)) (b_N_sumOf_63 c0 c1 c2 I Z) 63 :=
  r_iload_n F d_N_sumOf_63 rfl <| (o_N_sumOf_64 h0 h1 h2 F hr hlk hI)
theorem o_N_sumOf_56 {X : ra_X} {p : Program} {l : Launch} {e : Env} {s : State} {m : MethodId} {args : Array Value} {below : List Frame} {meth : Method} {c : Code} {Z : ra_R} {c0 c1 c2 : ra_Sp}  (h0 : ra_MOK l X mi_N_reads c0) (h1 : ra_MOK l X mi_N_isIn c1) (h2 : ra_MOK l X mi_N_ringOf c2) (F : ra_Fx X p rm_N_sumOf s m args c prog_13_method_74_code 5 cn_N) (hr : meth.sig.returnType = (some .int)) (hlk : meth.locks = false) {I : Nat → ra_K} (hI : ∀ t ∈ [11], ra_At X p l e rm_N_sumOf s m args below meth c 5 (MQ below (ra_Qc X Z) args s 0 0 (ra_A X)) (I t) t) : ra_At X p l e rm_N_sumOf s m args below meth c 5 (MQ below (ra_Qc X Z) args s 0 0 (ra_A X)) (b_N_sumOf_56 c0 c1 c2 I Z) 56 :=
  r_aload_n F d_N_sumOf_56 rfl <| r_getI F cg_N (j := 2) (by decide) rfl fl_N_109 d_N_sumOf_57 <| r_goto F d_N_sumOf_60 (by decide) (o_N_sumOf_64 h0 h1 h2 F hr hlk hI)
theorem o_N_sumOf_52 {X : ra_X} {p : Program} {l : Launch} {e : Env} {s : State} {m : MethodId} {args : Array Value} {below : List Frame} {meth : Method} {c : Code} {Z : ra_R} {c0 c1 c2 : ra_Sp}  (h0 : ra_MOK l X mi_N_reads c0) (h1 : ra_MOK l X mi_N_isIn c1) (h2 : ra_MOK l X mi_N_ringOf c2) (F : ra_Fx X p rm_N_sumOf s m args c prog_13_method_74_code 5 cn_N) (hr : meth.sig.returnType = (some .int)) (hlk : meth.locks = false) {I : Nat → ra_K} (hI : ∀ t ∈ [11], ra_At X p l e rm_N_sumOf s m args below meth c 5 (MQ below (ra_Qc X Z) args s 0 0 (ra_A X)) (I t) t) : ra_At X p l e rm_N_sumOf s m args below meth c 5 (MQ below (ra_Qc X Z) args s 0 0 (ra_A X)) (b_N_sumOf_52 c0 c1 c2 I Z) 52 :=
  r_iload_n F d_N_sumOf_52 rfl <| r_if_ne F d_N_sumOf_53 (by decide) (o_N_sumOf_63 h0 h1 h2 F hr hlk hI) (o_N_sumOf_56 h0 h1 h2 F hr hlk hI)
theorem o_N_sumOf_35 {X : ra_X} {p : Program} {l : Launch} {e : Env} {s : State} {m : MethodId} {args : Array Value} {below : List Frame} {meth : Method} {c : Code} {Z : ra_R} {c0 c1 c2 : ra_Sp}  (h0 : ra_MOK l X mi_N_reads c0) (h1 : ra_MOK l X mi_N_isIn c1) (h2 : ra_MOK l X mi_N_ringOf c2) (F : ra_Fx X p rm_N_sumOf s m args c prog_13_method_74_code 5 cn_N) (hr : meth.sig.returnType = (some .int)) (hlk : meth.locks = false) {I : Nat → ra_K} (hI : ∀ t ∈ [11], ra_At X p l e rm_N_sumOf s m args below meth c 5 (MQ below (ra_Qc X Z) args s 0 0 (ra_A X)) (I t) t) : ra_At X p l e rm_N_sumOf s m args below meth c 5 (MQ below (ra_Qc X Z) args s 0 0 (ra_A X)) (b_N_sumOf_35 c0 c1 c2 I Z) 35 :=
  r_iadd F d_N_sumOf_35 <| r_istore_n F d_N_sumOf_36 rfl (by decide) <| r_iload_n F d_N_sumOf_37 rfl <| r_aload_n F d_N_sumOf_38 rfl <| r_iload F d_N_sumOf_39 <| r_callV F h2 (co_N_ringOf (by decide +kernel) (by decide +kernel)) ⟨rfl, by decide +kernel⟩ ⟨rfl, by decide⟩ ml_N_179 im_N_ringOf se_N_ringOf d_N_sumOf_41 <| r_ior F d_N_sumOf_44 <| r_istore_n F d_N_sumOf_45 rfl (by decide) <| r_iinc F d_N_sumOf_46 (by decide) (by decide) <| r_goto F d_N_sumOf_49 (by decide) (hI 11 (by decide))
theorem o_N_sumOf_34 {X : ra_X} {p : Program} {l : Launch} {e : Env} {s : State} {m : MethodId} {args : Array Value} {below : List Frame} {meth : Method} {c : Code} {Z : ra_R} {c0 c1 c2 : ra_Sp}  (h0 : ra_MOK l X mi_N_reads c0) (h1 : ra_MOK l X mi_N_isIn c1) (h2 : ra_MOK l X mi_N_ringOf c2) (F : ra_Fx X p rm_N_sumOf s m args c prog_13_method_74_code 5 cn_N) (hr : meth.sig.returnType = (some .int)) (hlk : meth.locks = false) {I : Nat → ra_K} (hI : ∀ t ∈ [11], ra_At X p l e rm_N_sumOf s m args below meth c 5 (MQ below (ra_Qc X Z) args s 0 0 (ra_A X)) (I t) t) : ra_At X p l e rm_N_sumOf s m args below meth c 5 (MQ below (ra_Qc X Z) args s 0 0 (ra_A X)) (b_N_sumOf_34 c0 c1 c2 I Z) 34 :=
  r_iconst F d_N_sumOf_34 (by decide) <| (o_N_sumOf_35 h0 h1 h2 F hr hlk hI)
theorem o_N_sumOf_30 {X : ra_X} {p : Program} {l : Launch} {e : Env} {s : State} {m : MethodId} {args : Array Value} {below : List Frame} {meth : Method} {c : Code} {Z : ra_R} {c0 c1 c2 : ra_Sp}  (h0 : ra_MOK l X mi_N_reads c0) (h1 : ra_MOK l X mi_N_isIn c1) (h2 : ra_MOK l X mi_N_ringOf c2) (F : ra_Fx X p rm_N_sumOf s m args c prog_13_method_74_code 5 cn_N) (hr : meth.sig.returnType = (some .int)) (hlk : meth.locks = false) {I : Nat → ra_K} (hI : ∀ t ∈ [11], ra_At X p l e rm_N_sumOf s m args below meth c 5 (MQ below (ra_Qc X Z) args s 0 0 (ra_A X)) (I t) t) : ra_At X p l e rm_N_sumOf s m args below meth c 5 (MQ below (ra_Qc X Z) args s 0 0 (ra_A X)) (b_N_sumOf_30 c0 c1 c2 I Z) 30 :=
  r_iconst F d_N_sumOf_30 (by decide) <| r_goto F d_N_sumOf_31 (by decide) (o_N_sumOf_35 h0 h1 h2 F hr hlk hI)
theorem o_N_sumOf_20 {X : ra_X} {p : Program} {l : Launch} {e : Env} {s : State} {m : MethodId} {args : Array Value} {below : List Frame} {meth : Method} {c : Code} {Z : ra_R} {c0 c1 c2 : ra_Sp}  (h0 : ra_MOK l X mi_N_reads c0) (h1 : ra_MOK l X mi_N_isIn c1) (h2 : ra_MOK l X mi_N_ringOf c2) (F : ra_Fx X p rm_N_sumOf s m args c prog_13_method_74_code 5 cn_N) (hr : meth.sig.returnType = (some .int)) (hlk : meth.locks = false) {I : Nat → ra_K} (hI : ∀ t ∈ [11], ra_At X p l e rm_N_sumOf s m args below meth c 5 (MQ below (ra_Qc X Z) args s 0 0 (ra_A X)) (I t) t) : ra_At X p l e rm_N_sumOf s m args below meth c 5 (MQ below (ra_Qc X Z) args s 0 0 (ra_A X)) (b_N_sumOf_20 c0 c1 c2 I Z) 20 :=
  r_iload_n F d_N_sumOf_20 rfl <| r_iload_n F d_N_sumOf_21 rfl <| r_iload F d_N_sumOf_22 <| r_callS F h1 (co_N_isIn (by decide +kernel) (by decide +kernel)) ⟨rfl, by decide +kernel⟩ ml_N_116 st_N_isIn d_N_sumOf_24 <| r_if_eq F d_N_sumOf_27 (by decide) (o_N_sumOf_34 h0 h1 h2 F hr hlk hI) (o_N_sumOf_30 h0 h1 h2 F hr hlk hI)
theorem o_N_sumOf_11 {X : ra_X} {p : Program} {l : Launch} {e : Env} {s : State} {m : MethodId} {args : Array Value} {below : List Frame} {meth : Method} {c : Code} {Z : ra_R} {c0 c1 c2 : ra_Sp}  (h0 : ra_MOK l X mi_N_reads c0) (h1 : ra_MOK l X mi_N_isIn c1) (h2 : ra_MOK l X mi_N_ringOf c2) (F : ra_Fx X p rm_N_sumOf s m args c prog_13_method_74_code 5 cn_N) (hr : meth.sig.returnType = (some .int)) (hlk : meth.locks = false) {I : Nat → ra_K} (hI : ∀ t ∈ [11], ra_At X p l e rm_N_sumOf s m args below meth c 5 (MQ below (ra_Qc X Z) args s 0 0 (ra_A X)) (I t) t) : ra_At X p l e rm_N_sumOf s m args below meth c 5 (MQ below (ra_Qc X Z) args s 0 0 (ra_A X)) (b_N_sumOf_11 c0 c1 c2 I Z) 11 :=
  r_iload F d_N_sumOf_11 <| r_aload_n F d_N_sumOf_13 rfl <| r_getI F cg_N (j := 2) (by decide) rfl fl_N_109 d_N_sumOf_14 <| r_icmp_ge F d_N_sumOf_17 (by decide) (o_N_sumOf_52 h0 h1 h2 F hr hlk hI) (o_N_sumOf_20 h0 h1 h2 F hr hlk hI)
theorem o_N_sumOf_0 {X : ra_X} {p : Program} {l : Launch} {e : Env} {s : State} {m : MethodId} {args : Array Value} {below : List Frame} {meth : Method} {c : Code} {Z : ra_R} {c0 c1 c2 : ra_Sp}  (h0 : ra_MOK l X mi_N_reads c0) (h1 : ra_MOK l X mi_N_isIn c1) (h2 : ra_MOK l X mi_N_ringOf c2) (F : ra_Fx X p rm_N_sumOf s m args c prog_13_method_74_code 5 cn_N) (hr : meth.sig.returnType = (some .int)) (hlk : meth.locks = false) {I : Nat → ra_K} (hI : ∀ t ∈ [11], ra_At X p l e rm_N_sumOf s m args below meth c 5 (MQ below (ra_Qc X Z) args s 0 0 (ra_A X)) (I t) t) : ra_At X p l e rm_N_sumOf s m args below meth c 5 (MQ below (ra_Qc X Z) args s 0 0 (ra_A X)) (b_N_sumOf_0 c0 c1 c2 I Z) 0 :=
  r_aload_n F d_N_sumOf_0 rfl <| r_callV F h0 (co_N_reads (by decide +kernel) (by decide +kernel)) ⟨rfl, by decide +kernel⟩ ⟨rfl, by decide⟩ ml_N_134 im_N_reads se_N_reads d_N_sumOf_1 <| r_iconst F d_N_sumOf_4 (by decide) <| r_istore_n F d_N_sumOf_5 rfl (by decide) <| r_iconst F d_N_sumOf_6 (by decide) <| r_istore_n F d_N_sumOf_7 rfl (by decide) <| r_iconst F d_N_sumOf_8 (by decide) <| r_istore F d_N_sumOf_9 (by decide) <| (hI 11 (by decide))
theorem g_N_sumOf {l : Launch} {X : ra_X} {c0 c1 c2 : ra_Sp}  (h0 : ra_MOK l X mi_N_reads c0) (h1 : ra_MOK l X mi_N_isIn c1) (h2 : ra_MOK l X mi_N_ringOf c2) (sp : ra_Sp) (I : ra_R → List Value → ra_St → Nat → ra_M → ra_K) (ve : ∀ as σ Z, ra_c1 as = true → as.length = 2 → sp as σ Z → b_N_sumOf_0 c0 c1 c2 (ra_I (I Z as σ)) Z (ra_pad 5 as) [] σ) (v11 : ∀ as σ Z, sp as σ Z → ∀ μ L S σ1, I Z as σ 11 μ L S σ1 → b_N_sumOf_11 c0 c1 c2 (ra_J (I Z as σ) μ) Z L S σ1) : ra_MOK l X mi_N_sumOf sp := by
  refine ra_enter (k := fun Z as σ => b_N_sumOf_0 c0 c1 c2 (ra_I (I Z as σ)) Z) cn_N rfl (by decide +kernel) ⟨by decide +kernel, by decide +kernel⟩ (by decide +kernel) ?_ ve
  intro p e s m args below meth c Z as σ hsp F hr hlk
  refine o_N_sumOf_0 h0 h1 h2 F hr hlk (ra_cuts (b := fun t J => if t = 11 then b_N_sumOf_11 c0 c1 c2 J Z else fun _ _ _ => False) ?_ ?_)
  · intro t ht J hJ
    simp only [List.mem_cons, List.not_mem_nil, or_false] at ht
    rcases ht with rfl
    · exact o_N_sumOf_11 h0 h1 h2 F hr hlk hJ
  · intro t ht μ L S σ1 hI
    simp only [List.mem_cons, List.not_mem_nil, or_false] at ht
    rcases ht with rfl
    · exact v11 as σ Z hsp μ L S σ1 hI

theorem d_N_count_0 : decode prog_13_method_75_code 0 = .ok (.iload_n 1, 1) := by decide +kernel
theorem d_N_count_1 : decode prog_13_method_75_code 1 = .ok (.tableswitch 91 0 8 #[51, 57, 57, 66, 51, 71, 76, 76, 86], 51) := by decide +kernel
theorem d_N_count_52 : decode prog_13_method_75_code 52 = .ok (.aload_n 0, 1) := by decide +kernel
theorem d_N_count_53 : decode prog_13_method_75_code 53 = .ok (.iload_n 1, 1) := by decide +kernel
theorem d_N_count_54 : decode prog_13_method_75_code 54 = .ok (.invokevirtual 241, 3) := by decide +kernel
theorem d_N_count_57 : decode prog_13_method_75_code 57 = .ok (.ireturn, 1) := by decide +kernel
theorem d_N_count_58 : decode prog_13_method_75_code 58 = .ok (.aload_n 0, 1) := by decide +kernel
theorem d_N_count_59 : decode prog_13_method_75_code 59 = .ok (.getfield 7, 3) := by decide +kernel
theorem d_N_count_62 : decode prog_13_method_75_code 62 = .ok (.iload_n 1, 1) := by decide +kernel
theorem d_N_count_63 : decode prog_13_method_75_code 63 = .ok (.iconst 1, 1) := by decide +kernel
theorem d_N_count_64 : decode prog_13_method_75_code 64 = .ok (.isub, 1) := by decide +kernel
theorem d_N_count_65 : decode prog_13_method_75_code 65 = .ok (.iaload, 1) := by decide +kernel
theorem d_N_count_66 : decode prog_13_method_75_code 66 = .ok (.ireturn, 1) := by decide +kernel
theorem d_N_count_67 : decode prog_13_method_75_code 67 = .ok (.aload_n 0, 1) := by decide +kernel
theorem d_N_count_68 : decode prog_13_method_75_code 68 = .ok (.getfield 147, 3) := by decide +kernel
theorem d_N_count_71 : decode prog_13_method_75_code 71 = .ok (.ireturn, 1) := by decide +kernel
theorem d_N_count_72 : decode prog_13_method_75_code 72 = .ok (.aload_n 0, 1) := by decide +kernel
theorem d_N_count_73 : decode prog_13_method_75_code 73 = .ok (.getfield 203, 3) := by decide +kernel
theorem d_N_count_76 : decode prog_13_method_75_code 76 = .ok (.ireturn, 1) := by decide +kernel
theorem d_N_count_77 : decode prog_13_method_75_code 77 = .ok (.aload_n 0, 1) := by decide +kernel
theorem d_N_count_78 : decode prog_13_method_75_code 78 = .ok (.getfield 31, 3) := by decide +kernel
theorem d_N_count_81 : decode prog_13_method_75_code 81 = .ok (.iload_n 1, 1) := by decide +kernel
theorem d_N_count_82 : decode prog_13_method_75_code 82 = .ok (.bipush 6, 2) := by decide +kernel
theorem d_N_count_84 : decode prog_13_method_75_code 84 = .ok (.isub, 1) := by decide +kernel
theorem d_N_count_85 : decode prog_13_method_75_code 85 = .ok (.iaload, 1) := by decide +kernel
theorem d_N_count_86 : decode prog_13_method_75_code 86 = .ok (.ireturn, 1) := by decide +kernel
theorem d_N_count_87 : decode prog_13_method_75_code 87 = .ok (.aload_n 0, 1) := by decide +kernel
theorem d_N_count_88 : decode prog_13_method_75_code 88 = .ok (.getfield 230, 3) := by decide +kernel
theorem d_N_count_91 : decode prog_13_method_75_code 91 = .ok (.ireturn, 1) := by decide +kernel
theorem d_N_count_92 : decode prog_13_method_75_code 92 = .ok (.bipush (-2), 2) := by decide +kernel
theorem d_N_count_94 : decode prog_13_method_75_code 94 = .ok (.ireturn, 1) := by decide +kernel
def b_N_count_92 (c0 : ra_Sp) (Z : ra_R) : ra_K := w_c (-2) <| w_ir Z
def b_N_count_87 (c0 : ra_Sp) (Z : ra_R) : ra_K := w_al 0 <| w_gi 11 33 <| w_ir Z
def b_N_count_77 (c0 : ra_Sp) (Z : ra_R) : ra_K := w_al 0 <| w_gr 11 9 <| w_il 1 <| w_c 6 <| w_i2 (fun x y => x - y) <| w_ald <| w_ir Z
def b_N_count_72 (c0 : ra_Sp) (Z : ra_R) : ra_K := w_al 0 <| w_gi 11 22 <| w_ir Z
def b_N_count_67 (c0 : ra_Sp) (Z : ra_R) : ra_K := w_al 0 <| w_gi 11 7 <| w_ir Z
def b_N_count_58 (c0 : ra_Sp) (Z : ra_R) : ra_K := w_al 0 <| w_gr 11 0 <| w_il 1 <| w_c 1 <| w_i2 (fun x y => x - y) <| w_ald <| w_ir Z
def b_N_count_52 (c0 : ra_Sp) (Z : ra_R) : ra_K := w_al 0 <| w_il 1 <| w_cv c0 2 11 <| w_ir Z
def b_N_count_0 (c0 : ra_Sp) (Z : ra_R) : ra_K := w_il 1 <| w_sw [(0, (b_N_count_52 c0 Z)), (1, (b_N_count_58 c0 Z)), (2, (b_N_count_58 c0 Z)), (3, (b_N_count_67 c0 Z)), (4, (b_N_count_52 c0 Z)), (5, (b_N_count_72 c0 Z)), (6, (b_N_count_77 c0 Z)), (7, (b_N_count_77 c0 Z)), (8, (b_N_count_87 c0 Z))] (b_N_count_92 c0 Z)
theorem o_N_count_92 {X : ra_X} {p : Program} {l : Launch} {e : Env} {s : State} {m : MethodId} {args : Array Value} {below : List Frame} {meth : Method} {c : Code} {Z : ra_R} {c0 : ra_Sp}  (h0 : ra_MOK l X mi_N_sumOf c0) (F : ra_Fx X p rm_N_count s m args c prog_13_method_75_code 2 cn_N) (hr : meth.sig.returnType = (some .int)) (hlk : meth.locks = false) : ra_At X p l e rm_N_count s m args below meth c 2 (MQ below (ra_Qc X Z) args s 0 0 (ra_A X)) (b_N_count_92 c0 Z) 92 :=
  r_bipush F d_N_count_92 (by decide) <| r_ireturn F hr hlk d_N_count_94
theorem o_N_count_87 {X : ra_X} {p : Program} {l : Launch} {e : Env} {s : State} {m : MethodId} {args : Array Value} {below : List Frame} {meth : Method} {c : Code} {Z : ra_R} {c0 : ra_Sp}  (h0 : ra_MOK l X mi_N_sumOf c0) (F : ra_Fx X p rm_N_count s m args c prog_13_method_75_code 2 cn_N) (hr : meth.sig.returnType = (some .int)) (hlk : meth.locks = false) : ra_At X p l e rm_N_count s m args below meth c 2 (MQ below (ra_Qc X Z) args s 0 0 (ra_A X)) (b_N_count_87 c0 Z) 87 :=
  r_aload_n F d_N_count_87 rfl <| r_getI F cg_N (j := 33) (by decide) rfl fl_N_230 d_N_count_88 <| r_ireturn F hr hlk d_N_count_91
theorem o_N_count_77 {X : ra_X} {p : Program} {l : Launch} {e : Env} {s : State} {m : MethodId} {args : Array Value} {below : List Frame} {meth : Method} {c : Code} {Z : ra_R} {c0 : ra_Sp}  (h0 : ra_MOK l X mi_N_sumOf c0) (F : ra_Fx X p rm_N_count s m args c prog_13_method_75_code 2 cn_N) (hr : meth.sig.returnType = (some .int)) (hlk : meth.locks = false) : ra_At X p l e rm_N_count s m args below meth c 2 (MQ below (ra_Qc X Z) args s 0 0 (ra_A X)) (b_N_count_77 c0 Z) 77 :=
  r_aload_n F d_N_count_77 rfl <| r_getR F cg_N (j := 9) (by decide) rfl fl_N_31 d_N_count_78 <| r_iload_n F d_N_count_81 rfl <| r_bipush F d_N_count_82 (by decide) <| r_isub F d_N_count_84 <| r_iaload F d_N_count_85 <| r_ireturn F hr hlk d_N_count_86
theorem o_N_count_72 {X : ra_X} {p : Program} {l : Launch} {e : Env} {s : State} {m : MethodId} {args : Array Value} {below : List Frame} {meth : Method} {c : Code} {Z : ra_R} {c0 : ra_Sp}  (h0 : ra_MOK l X mi_N_sumOf c0) (F : ra_Fx X p rm_N_count s m args c prog_13_method_75_code 2 cn_N) (hr : meth.sig.returnType = (some .int)) (hlk : meth.locks = false) : ra_At X p l e rm_N_count s m args below meth c 2 (MQ below (ra_Qc X Z) args s 0 0 (ra_A X)) (b_N_count_72 c0 Z) 72 :=
  r_aload_n F d_N_count_72 rfl <| r_getI F cg_N (j := 22) (by decide) rfl fl_N_203 d_N_count_73 <| r_ireturn F hr hlk d_N_count_76
theorem o_N_count_67 {X : ra_X} {p : Program} {l : Launch} {e : Env} {s : State} {m : MethodId} {args : Array Value} {below : List Frame} {meth : Method} {c : Code} {Z : ra_R} {c0 : ra_Sp}  (h0 : ra_MOK l X mi_N_sumOf c0) (F : ra_Fx X p rm_N_count s m args c prog_13_method_75_code 2 cn_N) (hr : meth.sig.returnType = (some .int)) (hlk : meth.locks = false) : ra_At X p l e rm_N_count s m args below meth c 2 (MQ below (ra_Qc X Z) args s 0 0 (ra_A X)) (b_N_count_67 c0 Z) 67 :=
  r_aload_n F d_N_count_67 rfl <| r_getI F cg_N (j := 7) (by decide) rfl fl_N_147 d_N_count_68 <| r_ireturn F hr hlk d_N_count_71
theorem o_N_count_58 {X : ra_X} {p : Program} {l : Launch} {e : Env} {s : State} {m : MethodId} {args : Array Value} {below : List Frame} {meth : Method} {c : Code} {Z : ra_R} {c0 : ra_Sp}  (h0 : ra_MOK l X mi_N_sumOf c0) (F : ra_Fx X p rm_N_count s m args c prog_13_method_75_code 2 cn_N) (hr : meth.sig.returnType = (some .int)) (hlk : meth.locks = false) : ra_At X p l e rm_N_count s m args below meth c 2 (MQ below (ra_Qc X Z) args s 0 0 (ra_A X)) (b_N_count_58 c0 Z) 58 :=
  r_aload_n F d_N_count_58 rfl <| r_getR F cg_N (j := 0) (by decide) rfl fl_N_7 d_N_count_59 <| r_iload_n F d_N_count_62 rfl <| r_iconst F d_N_count_63 (by decide) <| r_isub F d_N_count_64 <| r_iaload F d_N_count_65 <| r_ireturn F hr hlk d_N_count_66
theorem o_N_count_52 {X : ra_X} {p : Program} {l : Launch} {e : Env} {s : State} {m : MethodId} {args : Array Value} {below : List Frame} {meth : Method} {c : Code} {Z : ra_R} {c0 : ra_Sp}  (h0 : ra_MOK l X mi_N_sumOf c0) (F : ra_Fx X p rm_N_count s m args c prog_13_method_75_code 2 cn_N) (hr : meth.sig.returnType = (some .int)) (hlk : meth.locks = false) : ra_At X p l e rm_N_count s m args below meth c 2 (MQ below (ra_Qc X Z) args s 0 0 (ra_A X)) (b_N_count_52 c0 Z) 52 :=
  r_aload_n F d_N_count_52 rfl <| r_iload_n F d_N_count_53 rfl <| r_callV F h0 (co_N_sumOf (by decide +kernel) (by decide +kernel)) ⟨rfl, by decide +kernel⟩ ⟨rfl, by decide⟩ ml_N_241 im_N_sumOf se_N_sumOf d_N_count_54 <| r_ireturn F hr hlk d_N_count_57
theorem o_N_count_0 {X : ra_X} {p : Program} {l : Launch} {e : Env} {s : State} {m : MethodId} {args : Array Value} {below : List Frame} {meth : Method} {c : Code} {Z : ra_R} {c0 : ra_Sp}  (h0 : ra_MOK l X mi_N_sumOf c0) (F : ra_Fx X p rm_N_count s m args c prog_13_method_75_code 2 cn_N) (hr : meth.sig.returnType = (some .int)) (hlk : meth.locks = false) : ra_At X p l e rm_N_count s m args below meth c 2 (MQ below (ra_Qc X Z) args s 0 0 (ra_A X)) (b_N_count_0 c0 Z) 0 :=
  r_iload_n F d_N_count_0 rfl <| r_tsw F d_N_count_1 (ts := [52, 58, 58, 67, 52, 72, 77, 77, 87]) ⟨(o_N_count_52 h0 F hr hlk), (o_N_count_58 h0 F hr hlk), (o_N_count_58 h0 F hr hlk), (o_N_count_67 h0 F hr hlk), (o_N_count_52 h0 F hr hlk), (o_N_count_72 h0 F hr hlk), (o_N_count_77 h0 F hr hlk), (o_N_count_77 h0 F hr hlk), (o_N_count_87 h0 F hr hlk), trivial⟩ rfl (by decide +kernel) (by decide +kernel) (by decide +kernel) (o_N_count_92 h0 F hr hlk)
theorem g_N_count {l : Launch} {X : ra_X} {c0 : ra_Sp}  (h0 : ra_MOK l X mi_N_sumOf c0) (sp : ra_Sp) (ve : ∀ as σ Z, ra_c1 as = true → as.length = 2 → sp as σ Z → b_N_count_0 c0 Z (ra_pad 2 as) [] σ) : ra_MOK l X mi_N_count sp := by
  refine ra_enter (k := fun Z as σ => b_N_count_0 c0 Z) cn_N rfl (by decide +kernel) ⟨by decide +kernel, by decide +kernel⟩ (by decide +kernel) ?_ ve
  intro p e s m args below meth c Z as σ hsp F hr hlk
  exact o_N_count_0 h0 F hr hlk

theorem d_N_digest_0 : decode prog_13_method_76_code 0 = .ok (.ldc2_w 244, 3) := by decide +kernel
theorem d_N_digest_3 : decode prog_13_method_76_code 3 = .ok (.lstore_n 1, 1) := by decide +kernel
theorem d_N_digest_4 : decode prog_13_method_76_code 4 = .ok (.iconst 0, 1) := by decide +kernel
theorem d_N_digest_5 : decode prog_13_method_76_code 5 = .ok (.istore_n 3, 1) := by decide +kernel
theorem d_N_digest_6 : decode prog_13_method_76_code 6 = .ok (.iload_n 3, 1) := by decide +kernel
theorem d_N_digest_7 : decode prog_13_method_76_code 7 = .ok (.bipush 8, 2) := by decide +kernel
theorem d_N_digest_9 : decode prog_13_method_76_code 9 = .ok (.if_icmp .ge 22, 3) := by decide +kernel
theorem d_N_digest_12 : decode prog_13_method_76_code 12 = .ok (.ldc2_w 246, 3) := by decide +kernel
theorem d_N_digest_15 : decode prog_13_method_76_code 15 = .ok (.lload_n 1, 1) := by decide +kernel
theorem d_N_digest_16 : decode prog_13_method_76_code 16 = .ok (.lmul, 1) := by decide +kernel
theorem d_N_digest_17 : decode prog_13_method_76_code 17 = .ok (.aload_n 0, 1) := by decide +kernel
theorem d_N_digest_18 : decode prog_13_method_76_code 18 = .ok (.iload_n 3, 1) := by decide +kernel
theorem d_N_digest_19 : decode prog_13_method_76_code 19 = .ok (.invokevirtual 248, 3) := by decide +kernel
theorem d_N_digest_22 : decode prog_13_method_76_code 22 = .ok (.i2l, 1) := by decide +kernel
theorem d_N_digest_23 : decode prog_13_method_76_code 23 = .ok (.ladd, 1) := by decide +kernel
theorem d_N_digest_24 : decode prog_13_method_76_code 24 = .ok (.lstore_n 1, 1) := by decide +kernel
theorem d_N_digest_25 : decode prog_13_method_76_code 25 = .ok (.iinc 3 1, 3) := by decide +kernel
theorem d_N_digest_28 : decode prog_13_method_76_code 28 = .ok (.goto (-22), 3) := by decide +kernel
theorem d_N_digest_31 : decode prog_13_method_76_code 31 = .ok (.ldc2_w 246, 3) := by decide +kernel
theorem d_N_digest_34 : decode prog_13_method_76_code 34 = .ok (.lload_n 1, 1) := by decide +kernel
theorem d_N_digest_35 : decode prog_13_method_76_code 35 = .ok (.lmul, 1) := by decide +kernel
theorem d_N_digest_36 : decode prog_13_method_76_code 36 = .ok (.aload_n 0, 1) := by decide +kernel
theorem d_N_digest_37 : decode prog_13_method_76_code 37 = .ok (.iconst 0, 1) := by decide +kernel
theorem d_N_digest_38 : decode prog_13_method_76_code 38 = .ok (.invokevirtual 130, 3) := by decide +kernel
theorem d_N_digest_41 : decode prog_13_method_76_code 41 = .ok (.i2l, 1) := by decide +kernel
theorem d_N_digest_42 : decode prog_13_method_76_code 42 = .ok (.ladd, 1) := by decide +kernel
theorem d_N_digest_43 : decode prog_13_method_76_code 43 = .ok (.lstore_n 1, 1) := by decide +kernel
theorem d_N_digest_44 : decode prog_13_method_76_code 44 = .ok (.ldc2_w 246, 3) := by decide +kernel
theorem d_N_digest_47 : decode prog_13_method_76_code 47 = .ok (.lload_n 1, 1) := by decide +kernel
theorem d_N_digest_48 : decode prog_13_method_76_code 48 = .ok (.lmul, 1) := by decide +kernel
theorem d_N_digest_49 : decode prog_13_method_76_code 49 = .ok (.aload_n 0, 1) := by decide +kernel
theorem d_N_digest_50 : decode prog_13_method_76_code 50 = .ok (.iconst 1, 1) := by decide +kernel
theorem d_N_digest_51 : decode prog_13_method_76_code 51 = .ok (.invokevirtual 130, 3) := by decide +kernel
theorem d_N_digest_54 : decode prog_13_method_76_code 54 = .ok (.i2l, 1) := by decide +kernel
theorem d_N_digest_55 : decode prog_13_method_76_code 55 = .ok (.ladd, 1) := by decide +kernel
theorem d_N_digest_56 : decode prog_13_method_76_code 56 = .ok (.lstore_n 1, 1) := by decide +kernel
theorem d_N_digest_57 : decode prog_13_method_76_code 57 = .ok (.iconst 0, 1) := by decide +kernel
theorem d_N_digest_58 : decode prog_13_method_76_code 58 = .ok (.istore_n 3, 1) := by decide +kernel
theorem d_N_digest_59 : decode prog_13_method_76_code 59 = .ok (.iload_n 3, 1) := by decide +kernel
theorem d_N_digest_60 : decode prog_13_method_76_code 60 = .ok (.aload_n 0, 1) := by decide +kernel
theorem d_N_digest_61 : decode prog_13_method_76_code 61 = .ok (.getfield 109, 3) := by decide +kernel
theorem d_N_digest_64 : decode prog_13_method_76_code 64 = .ok (.if_icmp .ge 186, 3) := by decide +kernel
theorem d_N_digest_67 : decode prog_13_method_76_code 67 = .ok (.iconst 0, 1) := by decide +kernel
theorem d_N_digest_68 : decode prog_13_method_76_code 68 = .ok (.istore 4, 2) := by decide +kernel
theorem d_N_digest_70 : decode prog_13_method_76_code 70 = .ok (.iload 4, 2) := by decide +kernel
theorem d_N_digest_72 : decode prog_13_method_76_code 72 = .ok (.iconst 5, 1) := by decide +kernel
theorem d_N_digest_73 : decode prog_13_method_76_code 73 = .ok (.if_icmp .ge 24, 3) := by decide +kernel
theorem d_N_digest_76 : decode prog_13_method_76_code 76 = .ok (.ldc2_w 246, 3) := by decide +kernel
theorem d_N_digest_79 : decode prog_13_method_76_code 79 = .ok (.lload_n 1, 1) := by decide +kernel
theorem d_N_digest_80 : decode prog_13_method_76_code 80 = .ok (.lmul, 1) := by decide +kernel
theorem d_N_digest_81 : decode prog_13_method_76_code 81 = .ok (.aload_n 0, 1) := by decide +kernel
theorem d_N_digest_82 : decode prog_13_method_76_code 82 = .ok (.iload_n 3, 1) := by decide +kernel
theorem d_N_digest_83 : decode prog_13_method_76_code 83 = .ok (.iload 4, 2) := by decide +kernel
theorem d_N_digest_85 : decode prog_13_method_76_code 85 = .ok (.invokevirtual 144, 3) := by decide +kernel
theorem d_N_digest_88 : decode prog_13_method_76_code 88 = .ok (.i2l, 1) := by decide +kernel
theorem d_N_digest_89 : decode prog_13_method_76_code 89 = .ok (.ladd, 1) := by decide +kernel
theorem d_N_digest_90 : decode prog_13_method_76_code 90 = .ok (.lstore_n 1, 1) := by decide +kernel
theorem d_N_digest_91 : decode prog_13_method_76_code 91 = .ok (.iinc 4 1, 3) := by decide +kernel
theorem d_N_digest_94 : decode prog_13_method_76_code 94 = .ok (.goto (-24), 3) := by decide +kernel
theorem d_N_digest_97 : decode prog_13_method_76_code 97 = .ok (.iconst 0, 1) := by decide +kernel
theorem d_N_digest_98 : decode prog_13_method_76_code 98 = .ok (.istore 4, 2) := by decide +kernel
theorem d_N_digest_100 : decode prog_13_method_76_code 100 = .ok (.iload 4, 2) := by decide +kernel
theorem d_N_digest_102 : decode prog_13_method_76_code 102 = .ok (.iconst 4, 1) := by decide +kernel
theorem d_N_digest_103 : decode prog_13_method_76_code 103 = .ok (.if_icmp .ge 28, 3) := by decide +kernel
theorem d_N_digest_106 : decode prog_13_method_76_code 106 = .ok (.ldc2_w 246, 3) := by decide +kernel
theorem d_N_digest_109 : decode prog_13_method_76_code 109 = .ok (.lload_n 1, 1) := by decide +kernel
theorem d_N_digest_110 : decode prog_13_method_76_code 110 = .ok (.lmul, 1) := by decide +kernel
theorem d_N_digest_111 : decode prog_13_method_76_code 111 = .ok (.aload_n 0, 1) := by decide +kernel
theorem d_N_digest_112 : decode prog_13_method_76_code 112 = .ok (.iload_n 3, 1) := by decide +kernel
theorem d_N_digest_113 : decode prog_13_method_76_code 113 = .ok (.aload_n 0, 1) := by decide +kernel
theorem d_N_digest_114 : decode prog_13_method_76_code 114 = .ok (.getfield 147, 3) := by decide +kernel
theorem d_N_digest_117 : decode prog_13_method_76_code 117 = .ok (.iload 4, 2) := by decide +kernel
theorem d_N_digest_119 : decode prog_13_method_76_code 119 = .ok (.invokevirtual 172, 3) := by decide +kernel
theorem d_N_digest_122 : decode prog_13_method_76_code 122 = .ok (.i2l, 1) := by decide +kernel
theorem d_N_digest_123 : decode prog_13_method_76_code 123 = .ok (.ladd, 1) := by decide +kernel
theorem d_N_digest_124 : decode prog_13_method_76_code 124 = .ok (.lstore_n 1, 1) := by decide +kernel
theorem d_N_digest_125 : decode prog_13_method_76_code 125 = .ok (.iinc 4 1, 3) := by decide +kernel
theorem d_N_digest_128 : decode prog_13_method_76_code 128 = .ok (.goto (-28), 3) := by decide +kernel
theorem d_N_digest_131 : decode prog_13_method_76_code 131 = .ok (.ldc2_w 246, 3) := by decide +kernel
theorem d_N_digest_134 : decode prog_13_method_76_code 134 = .ok (.lload_n 1, 1) := by decide +kernel
theorem d_N_digest_135 : decode prog_13_method_76_code 135 = .ok (.lmul, 1) := by decide +kernel
theorem d_N_digest_136 : decode prog_13_method_76_code 136 = .ok (.aload_n 0, 1) := by decide +kernel
theorem d_N_digest_137 : decode prog_13_method_76_code 137 = .ok (.iload_n 3, 1) := by decide +kernel
theorem d_N_digest_138 : decode prog_13_method_76_code 138 = .ok (.invokevirtual 179, 3) := by decide +kernel
theorem d_N_digest_141 : decode prog_13_method_76_code 141 = .ok (.i2l, 1) := by decide +kernel
theorem d_N_digest_142 : decode prog_13_method_76_code 142 = .ok (.ladd, 1) := by decide +kernel
theorem d_N_digest_143 : decode prog_13_method_76_code 143 = .ok (.lstore_n 1, 1) := by decide +kernel
theorem d_N_digest_144 : decode prog_13_method_76_code 144 = .ok (.ldc2_w 246, 3) := by decide +kernel
theorem d_N_digest_147 : decode prog_13_method_76_code 147 = .ok (.lload_n 1, 1) := by decide +kernel
theorem d_N_digest_148 : decode prog_13_method_76_code 148 = .ok (.lmul, 1) := by decide +kernel
theorem d_N_digest_149 : decode prog_13_method_76_code 149 = .ok (.aload_n 0, 1) := by decide +kernel
theorem d_N_digest_150 : decode prog_13_method_76_code 150 = .ok (.iload_n 3, 1) := by decide +kernel
theorem d_N_digest_151 : decode prog_13_method_76_code 151 = .ok (.invokevirtual 179, 3) := by decide +kernel
theorem d_N_digest_154 : decode prog_13_method_76_code 154 = .ok (.invokestatic 182, 3) := by decide +kernel
theorem d_N_digest_157 : decode prog_13_method_76_code 157 = .ok (.i2l, 1) := by decide +kernel
theorem d_N_digest_158 : decode prog_13_method_76_code 158 = .ok (.ladd, 1) := by decide +kernel
theorem d_N_digest_159 : decode prog_13_method_76_code 159 = .ok (.lstore_n 1, 1) := by decide +kernel
theorem d_N_digest_160 : decode prog_13_method_76_code 160 = .ok (.ldc2_w 246, 3) := by decide +kernel
theorem d_N_digest_163 : decode prog_13_method_76_code 163 = .ok (.lload_n 1, 1) := by decide +kernel
theorem d_N_digest_164 : decode prog_13_method_76_code 164 = .ok (.lmul, 1) := by decide +kernel
theorem d_N_digest_165 : decode prog_13_method_76_code 165 = .ok (.aload_n 0, 1) := by decide +kernel
theorem d_N_digest_166 : decode prog_13_method_76_code 166 = .ok (.iload_n 3, 1) := by decide +kernel
theorem d_N_digest_167 : decode prog_13_method_76_code 167 = .ok (.iconst 3, 1) := by decide +kernel
theorem d_N_digest_168 : decode prog_13_method_76_code 168 = .ok (.iconst 0, 1) := by decide +kernel
theorem d_N_digest_169 : decode prog_13_method_76_code 169 = .ok (.invokevirtual 185, 3) := by decide +kernel
theorem d_N_digest_172 : decode prog_13_method_76_code 172 = .ok (.i2l, 1) := by decide +kernel
theorem d_N_digest_173 : decode prog_13_method_76_code 173 = .ok (.ladd, 1) := by decide +kernel
theorem d_N_digest_174 : decode prog_13_method_76_code 174 = .ok (.lstore_n 1, 1) := by decide +kernel
theorem d_N_digest_175 : decode prog_13_method_76_code 175 = .ok (.ldc2_w 246, 3) := by decide +kernel
theorem d_N_digest_178 : decode prog_13_method_76_code 178 = .ok (.lload_n 1, 1) := by decide +kernel
theorem d_N_digest_179 : decode prog_13_method_76_code 179 = .ok (.lmul, 1) := by decide +kernel
theorem d_N_digest_180 : decode prog_13_method_76_code 180 = .ok (.aload_n 0, 1) := by decide +kernel
theorem d_N_digest_181 : decode prog_13_method_76_code 181 = .ok (.iload_n 3, 1) := by decide +kernel
theorem d_N_digest_182 : decode prog_13_method_76_code 182 = .ok (.iconst 3, 1) := by decide +kernel
theorem d_N_digest_183 : decode prog_13_method_76_code 183 = .ok (.iconst 1, 1) := by decide +kernel
theorem d_N_digest_184 : decode prog_13_method_76_code 184 = .ok (.invokevirtual 185, 3) := by decide +kernel
theorem d_N_digest_187 : decode prog_13_method_76_code 187 = .ok (.i2l, 1) := by decide +kernel
theorem d_N_digest_188 : decode prog_13_method_76_code 188 = .ok (.ladd, 1) := by decide +kernel
theorem d_N_digest_189 : decode prog_13_method_76_code 189 = .ok (.lstore_n 1, 1) := by decide +kernel
theorem d_N_digest_190 : decode prog_13_method_76_code 190 = .ok (.ldc2_w 246, 3) := by decide +kernel
theorem d_N_digest_193 : decode prog_13_method_76_code 193 = .ok (.lload_n 1, 1) := by decide +kernel
theorem d_N_digest_194 : decode prog_13_method_76_code 194 = .ok (.lmul, 1) := by decide +kernel
theorem d_N_digest_195 : decode prog_13_method_76_code 195 = .ok (.aload_n 0, 1) := by decide +kernel
theorem d_N_digest_196 : decode prog_13_method_76_code 196 = .ok (.iload_n 3, 1) := by decide +kernel
theorem d_N_digest_197 : decode prog_13_method_76_code 197 = .ok (.invokevirtual 197, 3) := by decide +kernel
theorem d_N_digest_200 : decode prog_13_method_76_code 200 = .ok (.i2l, 1) := by decide +kernel
theorem d_N_digest_201 : decode prog_13_method_76_code 201 = .ok (.ladd, 1) := by decide +kernel
theorem d_N_digest_202 : decode prog_13_method_76_code 202 = .ok (.lstore_n 1, 1) := by decide +kernel
theorem d_N_digest_203 : decode prog_13_method_76_code 203 = .ok (.ldc2_w 246, 3) := by decide +kernel
theorem d_N_digest_206 : decode prog_13_method_76_code 206 = .ok (.lload_n 1, 1) := by decide +kernel
theorem d_N_digest_207 : decode prog_13_method_76_code 207 = .ok (.lmul, 1) := by decide +kernel
theorem d_N_digest_208 : decode prog_13_method_76_code 208 = .ok (.aload_n 0, 1) := by decide +kernel
theorem d_N_digest_209 : decode prog_13_method_76_code 209 = .ok (.iload_n 3, 1) := by decide +kernel
theorem d_N_digest_210 : decode prog_13_method_76_code 210 = .ok (.invokevirtual 200, 3) := by decide +kernel
theorem d_N_digest_213 : decode prog_13_method_76_code 213 = .ok (.i2l, 1) := by decide +kernel
theorem d_N_digest_214 : decode prog_13_method_76_code 214 = .ok (.ladd, 1) := by decide +kernel
theorem d_N_digest_215 : decode prog_13_method_76_code 215 = .ok (.lstore_n 1, 1) := by decide +kernel
theorem d_N_digest_216 : decode prog_13_method_76_code 216 = .ok (.ldc2_w 246, 3) := by decide +kernel
theorem d_N_digest_219 : decode prog_13_method_76_code 219 = .ok (.lload_n 1, 1) := by decide +kernel
theorem d_N_digest_220 : decode prog_13_method_76_code 220 = .ok (.lmul, 1) := by decide +kernel
theorem d_N_digest_221 : decode prog_13_method_76_code 221 = .ok (.aload_n 0, 1) := by decide +kernel
theorem d_N_digest_222 : decode prog_13_method_76_code 222 = .ok (.iload_n 3, 1) := by decide +kernel
theorem d_N_digest_223 : decode prog_13_method_76_code 223 = .ok (.invokevirtual 215, 3) := by decide +kernel
theorem d_N_digest_226 : decode prog_13_method_76_code 226 = .ok (.i2l, 1) := by decide +kernel
theorem d_N_digest_227 : decode prog_13_method_76_code 227 = .ok (.ladd, 1) := by decide +kernel
theorem d_N_digest_228 : decode prog_13_method_76_code 228 = .ok (.lstore_n 1, 1) := by decide +kernel
theorem d_N_digest_229 : decode prog_13_method_76_code 229 = .ok (.ldc2_w 246, 3) := by decide +kernel
theorem d_N_digest_232 : decode prog_13_method_76_code 232 = .ok (.lload_n 1, 1) := by decide +kernel
theorem d_N_digest_233 : decode prog_13_method_76_code 233 = .ok (.lmul, 1) := by decide +kernel
theorem d_N_digest_234 : decode prog_13_method_76_code 234 = .ok (.aload_n 0, 1) := by decide +kernel
theorem d_N_digest_235 : decode prog_13_method_76_code 235 = .ok (.bipush 9, 2) := by decide +kernel
theorem d_N_digest_237 : decode prog_13_method_76_code 237 = .ok (.iload_n 3, 1) := by decide +kernel
theorem d_N_digest_238 : decode prog_13_method_76_code 238 = .ok (.invokevirtual 224, 3) := by decide +kernel
theorem d_N_digest_241 : decode prog_13_method_76_code 241 = .ok (.i2l, 1) := by decide +kernel
theorem d_N_digest_242 : decode prog_13_method_76_code 242 = .ok (.ladd, 1) := by decide +kernel
theorem d_N_digest_243 : decode prog_13_method_76_code 243 = .ok (.lstore_n 1, 1) := by decide +kernel
theorem d_N_digest_244 : decode prog_13_method_76_code 244 = .ok (.iinc 3 1, 3) := by decide +kernel
theorem d_N_digest_247 : decode prog_13_method_76_code 247 = .ok (.goto (-188), 3) := by decide +kernel
theorem d_N_digest_250 : decode prog_13_method_76_code 250 = .ok (.iconst 0, 1) := by decide +kernel
theorem d_N_digest_251 : decode prog_13_method_76_code 251 = .ok (.istore_n 3, 1) := by decide +kernel
theorem d_N_digest_252 : decode prog_13_method_76_code 252 = .ok (.iload_n 3, 1) := by decide +kernel
theorem d_N_digest_253 : decode prog_13_method_76_code 253 = .ok (.iconst 4, 1) := by decide +kernel
theorem d_N_digest_254 : decode prog_13_method_76_code 254 = .ok (.if_icmp .ge 26, 3) := by decide +kernel
theorem d_N_digest_257 : decode prog_13_method_76_code 257 = .ok (.ldc2_w 246, 3) := by decide +kernel
theorem d_N_digest_260 : decode prog_13_method_76_code 260 = .ok (.lload_n 1, 1) := by decide +kernel
theorem d_N_digest_261 : decode prog_13_method_76_code 261 = .ok (.lmul, 1) := by decide +kernel
theorem d_N_digest_262 : decode prog_13_method_76_code 262 = .ok (.aload_n 0, 1) := by decide +kernel
theorem d_N_digest_263 : decode prog_13_method_76_code 263 = .ok (.aload_n 0, 1) := by decide +kernel
theorem d_N_digest_264 : decode prog_13_method_76_code 264 = .ok (.getfield 147, 3) := by decide +kernel
theorem d_N_digest_267 : decode prog_13_method_76_code 267 = .ok (.iload_n 3, 1) := by decide +kernel
theorem d_N_digest_268 : decode prog_13_method_76_code 268 = .ok (.invokevirtual 176, 3) := by decide +kernel
theorem d_N_digest_271 : decode prog_13_method_76_code 271 = .ok (.i2l, 1) := by decide +kernel
theorem d_N_digest_272 : decode prog_13_method_76_code 272 = .ok (.ladd, 1) := by decide +kernel
theorem d_N_digest_273 : decode prog_13_method_76_code 273 = .ok (.lstore_n 1, 1) := by decide +kernel
theorem d_N_digest_274 : decode prog_13_method_76_code 274 = .ok (.iinc 3 1, 3) := by decide +kernel
theorem d_N_digest_277 : decode prog_13_method_76_code 277 = .ok (.goto (-25), 3) := by decide +kernel
theorem d_N_digest_280 : decode prog_13_method_76_code 280 = .ok (.ldc2_w 246, 3) := by decide +kernel
theorem d_N_digest_283 : decode prog_13_method_76_code 283 = .ok (.lload_n 1, 1) := by decide +kernel
theorem d_N_digest_284 : decode prog_13_method_76_code 284 = .ok (.lmul, 1) := by decide +kernel
theorem d_N_digest_285 : decode prog_13_method_76_code 285 = .ok (.aload_n 0, 1) := by decide +kernel
theorem d_N_digest_286 : decode prog_13_method_76_code 286 = .ok (.iconst (-1), 1) := by decide +kernel
theorem d_N_digest_287 : decode prog_13_method_76_code 287 = .ok (.invokevirtual 197, 3) := by decide +kernel
theorem d_N_digest_290 : decode prog_13_method_76_code 290 = .ok (.i2l, 1) := by decide +kernel
theorem d_N_digest_291 : decode prog_13_method_76_code 291 = .ok (.ladd, 1) := by decide +kernel
theorem d_N_digest_292 : decode prog_13_method_76_code 292 = .ok (.lstore_n 1, 1) := by decide +kernel
theorem d_N_digest_293 : decode prog_13_method_76_code 293 = .ok (.ldc2_w 246, 3) := by decide +kernel
theorem d_N_digest_296 : decode prog_13_method_76_code 296 = .ok (.lload_n 1, 1) := by decide +kernel
theorem d_N_digest_297 : decode prog_13_method_76_code 297 = .ok (.lmul, 1) := by decide +kernel
theorem d_N_digest_298 : decode prog_13_method_76_code 298 = .ok (.aload_n 0, 1) := by decide +kernel
theorem d_N_digest_299 : decode prog_13_method_76_code 299 = .ok (.bipush (-2), 2) := by decide +kernel
theorem d_N_digest_301 : decode prog_13_method_76_code 301 = .ok (.invokevirtual 197, 3) := by decide +kernel
theorem d_N_digest_304 : decode prog_13_method_76_code 304 = .ok (.i2l, 1) := by decide +kernel
theorem d_N_digest_305 : decode prog_13_method_76_code 305 = .ok (.ladd, 1) := by decide +kernel
theorem d_N_digest_306 : decode prog_13_method_76_code 306 = .ok (.lstore_n 1, 1) := by decide +kernel
theorem d_N_digest_307 : decode prog_13_method_76_code 307 = .ok (.ldc2_w 246, 3) := by decide +kernel
theorem d_N_digest_310 : decode prog_13_method_76_code 310 = .ok (.lload_n 1, 1) := by decide +kernel
theorem d_N_digest_311 : decode prog_13_method_76_code 311 = .ok (.lmul, 1) := by decide +kernel
theorem d_N_digest_312 : decode prog_13_method_76_code 312 = .ok (.aload_n 0, 1) := by decide +kernel
theorem d_N_digest_313 : decode prog_13_method_76_code 313 = .ok (.iconst (-1), 1) := by decide +kernel
theorem d_N_digest_314 : decode prog_13_method_76_code 314 = .ok (.invokevirtual 200, 3) := by decide +kernel
theorem d_N_digest_317 : decode prog_13_method_76_code 317 = .ok (.i2l, 1) := by decide +kernel
theorem d_N_digest_318 : decode prog_13_method_76_code 318 = .ok (.ladd, 1) := by decide +kernel
theorem d_N_digest_319 : decode prog_13_method_76_code 319 = .ok (.lstore_n 1, 1) := by decide +kernel
theorem d_N_digest_320 : decode prog_13_method_76_code 320 = .ok (.ldc2_w 246, 3) := by decide +kernel
theorem d_N_digest_323 : decode prog_13_method_76_code 323 = .ok (.lload_n 1, 1) := by decide +kernel
theorem d_N_digest_324 : decode prog_13_method_76_code 324 = .ok (.lmul, 1) := by decide +kernel
theorem d_N_digest_325 : decode prog_13_method_76_code 325 = .ok (.aload_n 0, 1) := by decide +kernel
theorem d_N_digest_326 : decode prog_13_method_76_code 326 = .ok (.iconst (-1), 1) := by decide +kernel
theorem d_N_digest_327 : decode prog_13_method_76_code 327 = .ok (.invokevirtual 215, 3) := by decide +kernel
theorem d_N_digest_330 : decode prog_13_method_76_code 330 = .ok (.i2l, 1) := by decide +kernel
theorem d_N_digest_331 : decode prog_13_method_76_code 331 = .ok (.ladd, 1) := by decide +kernel
theorem d_N_digest_332 : decode prog_13_method_76_code 332 = .ok (.lstore_n 1, 1) := by decide +kernel
theorem d_N_digest_333 : decode prog_13_method_76_code 333 = .ok (.ldc2_w 246, 3) := by decide +kernel
theorem d_N_digest_336 : decode prog_13_method_76_code 336 = .ok (.lload_n 1, 1) := by decide +kernel
theorem d_N_digest_337 : decode prog_13_method_76_code 337 = .ok (.lmul, 1) := by decide +kernel
theorem d_N_digest_338 : decode prog_13_method_76_code 338 = .ok (.aload_n 0, 1) := by decide +kernel
theorem d_N_digest_339 : decode prog_13_method_76_code 339 = .ok (.iconst 0, 1) := by decide +kernel
theorem d_N_digest_340 : decode prog_13_method_76_code 340 = .ok (.invokevirtual 218, 3) := by decide +kernel
theorem d_N_digest_343 : decode prog_13_method_76_code 343 = .ok (.i2l, 1) := by decide +kernel
theorem d_N_digest_344 : decode prog_13_method_76_code 344 = .ok (.ladd, 1) := by decide +kernel
theorem d_N_digest_345 : decode prog_13_method_76_code 345 = .ok (.lstore_n 1, 1) := by decide +kernel
theorem d_N_digest_346 : decode prog_13_method_76_code 346 = .ok (.ldc2_w 246, 3) := by decide +kernel
theorem d_N_digest_349 : decode prog_13_method_76_code 349 = .ok (.lload_n 1, 1) := by decide +kernel
theorem d_N_digest_350 : decode prog_13_method_76_code 350 = .ok (.lmul, 1) := by decide +kernel
theorem d_N_digest_351 : decode prog_13_method_76_code 351 = .ok (.aload_n 0, 1) := by decide +kernel
theorem d_N_digest_352 : decode prog_13_method_76_code 352 = .ok (.iconst 1, 1) := by decide +kernel
theorem d_N_digest_353 : decode prog_13_method_76_code 353 = .ok (.invokevirtual 218, 3) := by decide +kernel
theorem d_N_digest_356 : decode prog_13_method_76_code 356 = .ok (.i2l, 1) := by decide +kernel
theorem d_N_digest_357 : decode prog_13_method_76_code 357 = .ok (.ladd, 1) := by decide +kernel
theorem d_N_digest_358 : decode prog_13_method_76_code 358 = .ok (.lstore_n 1, 1) := by decide +kernel
theorem d_N_digest_359 : decode prog_13_method_76_code 359 = .ok (.ldc2_w 246, 3) := by decide +kernel
theorem d_N_digest_362 : decode prog_13_method_76_code 362 = .ok (.lload_n 1, 1) := by decide +kernel
theorem d_N_digest_363 : decode prog_13_method_76_code 363 = .ok (.lmul, 1) := by decide +kernel
theorem d_N_digest_364 : decode prog_13_method_76_code 364 = .ok (.aload_n 0, 1) := by decide +kernel
theorem d_N_digest_365 : decode prog_13_method_76_code 365 = .ok (.bipush 9, 2) := by decide +kernel
theorem d_N_digest_367 : decode prog_13_method_76_code 367 = .ok (.iconst (-1), 1) := by decide +kernel
theorem d_N_digest_368 : decode prog_13_method_76_code 368 = .ok (.invokevirtual 224, 3) := by decide +kernel
theorem d_N_digest_371 : decode prog_13_method_76_code 371 = .ok (.i2l, 1) := by decide +kernel
theorem d_N_digest_372 : decode prog_13_method_76_code 372 = .ok (.ladd, 1) := by decide +kernel
theorem d_N_digest_373 : decode prog_13_method_76_code 373 = .ok (.lstore_n 1, 1) := by decide +kernel
theorem d_N_digest_374 : decode prog_13_method_76_code 374 = .ok (.ldc2_w 246, 3) := by decide +kernel
theorem d_N_digest_377 : decode prog_13_method_76_code 377 = .ok (.lload_n 1, 1) := by decide +kernel
theorem d_N_digest_378 : decode prog_13_method_76_code 378 = .ok (.lmul, 1) := by decide +kernel
theorem d_N_digest_379 : decode prog_13_method_76_code 379 = .ok (.aload_n 0, 1) := by decide +kernel
theorem d_N_digest_380 : decode prog_13_method_76_code 380 = .ok (.invokevirtual 227, 3) := by decide +kernel
theorem d_N_digest_383 : decode prog_13_method_76_code 383 = .ok (.i2l, 1) := by decide +kernel
theorem d_N_digest_384 : decode prog_13_method_76_code 384 = .ok (.ladd, 1) := by decide +kernel
theorem d_N_digest_385 : decode prog_13_method_76_code 385 = .ok (.lreturn, 1) := by decide +kernel
def b_N_digest_280 (c0 c1 c2 c3 c4 c5 c6 c7 c8 c9 c10 c11 c12 c13 : ra_Sp) (I : Nat → ra_K) (Z : ra_R) : ra_K := w_cl 31 <| w_ll 1 <| w_l2 (fun x y => x * y) <| w_al 0 <| w_c (-1) <| w_cv c7 2 11 <| w_i2l <| w_l2 (fun x y => x + y) <| w_ls 1 <| w_cl 31 <| w_ll 1 <| w_l2 (fun x y => x * y) <| w_al 0 <| w_c (-2) <| w_cv c7 2 11 <| w_i2l <| w_l2 (fun x y => x + y) <| w_ls 1 <| w_cl 31 <| w_ll 1 <| w_l2 (fun x y => x * y) <| w_al 0 <| w_c (-1) <| w_cv c8 2 11 <| w_i2l <| w_l2 (fun x y => x + y) <| w_ls 1 <| w_cl 31 <| w_ll 1 <| w_l2 (fun x y => x * y) <| w_al 0 <| w_c (-1) <| w_cv c9 2 11 <| w_i2l <| w_l2 (fun x y => x + y) <| w_ls 1 <| w_cl 31 <| w_ll 1 <| w_l2 (fun x y => x * y) <| w_al 0 <| w_c 0 <| w_cv c12 2 11 <| w_i2l <| w_l2 (fun x y => x + y) <| w_ls 1 <| w_cl 31 <| w_ll 1 <| w_l2 (fun x y => x * y) <| w_al 0 <| w_c 1 <| w_cv c12 2 11 <| w_i2l <| w_l2 (fun x y => x + y) <| w_ls 1 <| w_cl 31 <| w_ll 1 <| w_l2 (fun x y => x * y) <| w_al 0 <| w_c 9 <| w_c (-1) <| w_cv c10 3 11 <| w_i2l <| w_l2 (fun x y => x + y) <| w_ls 1 <| w_cl 31 <| w_ll 1 <| w_l2 (fun x y => x * y) <| w_al 0 <| w_cv c13 1 11 <| w_i2l <| w_l2 (fun x y => x + y) <| w_lr Z
def b_N_digest_257 (c0 c1 c2 c3 c4 c5 c6 c7 c8 c9 c10 c11 c12 c13 : ra_Sp) (I : Nat → ra_K) (Z : ra_R) : ra_K := w_cl 31 <| w_ll 1 <| w_l2 (fun x y => x * y) <| w_al 0 <| w_al 0 <| w_gi 11 7 <| w_il 3 <| w_cv c11 3 11 <| w_i2l <| w_l2 (fun x y => x + y) <| w_ls 1 <| w_inc 3 1 <| (I 252)
def b_N_digest_252 (c0 c1 c2 c3 c4 c5 c6 c7 c8 c9 c10 c11 c12 c13 : ra_Sp) (I : Nat → ra_K) (Z : ra_R) : ra_K := w_il 3 <| w_c 4 <| w_b2 (fun x y => y ≤ x) (b_N_digest_280 c0 c1 c2 c3 c4 c5 c6 c7 c8 c9 c10 c11 c12 c13 I Z) (b_N_digest_257 c0 c1 c2 c3 c4 c5 c6 c7 c8 c9 c10 c11 c12 c13 I Z)
def b_N_digest_250 (c0 c1 c2 c3 c4 c5 c6 c7 c8 c9 c10 c11 c12 c13 : ra_Sp) (I : Nat → ra_K) (Z : ra_R) : ra_K := w_c 0 <| w_is 3 <| (I 252)
def b_N_digest_131 (c0 c1 c2 c3 c4 c5 c6 c7 c8 c9 c10 c11 c12 c13 : ra_Sp) (I : Nat → ra_K) (Z : ra_R) : ra_K := w_cl 31 <| w_ll 1 <| w_l2 (fun x y => x * y) <| w_al 0 <| w_il 3 <| w_cv c4 2 11 <| w_i2l <| w_l2 (fun x y => x + y) <| w_ls 1 <| w_cl 31 <| w_ll 1 <| w_l2 (fun x y => x * y) <| w_al 0 <| w_il 3 <| w_cv c4 2 11 <| w_cs c5 1 <| w_i2l <| w_l2 (fun x y => x + y) <| w_ls 1 <| w_cl 31 <| w_ll 1 <| w_l2 (fun x y => x * y) <| w_al 0 <| w_il 3 <| w_c 3 <| w_c 0 <| w_cv c6 4 11 <| w_i2l <| w_l2 (fun x y => x + y) <| w_ls 1 <| w_cl 31 <| w_ll 1 <| w_l2 (fun x y => x * y) <| w_al 0 <| w_il 3 <| w_c 3 <| w_c 1 <| w_cv c6 4 11 <| w_i2l <| w_l2 (fun x y => x + y) <| w_ls 1 <| w_cl 31 <| w_ll 1 <| w_l2 (fun x y => x * y) <| w_al 0 <| w_il 3 <| w_cv c7 2 11 <| w_i2l <| w_l2 (fun x y => x + y) <| w_ls 1 <| w_cl 31 <| w_ll 1 <| w_l2 (fun x y => x * y) <| w_al 0 <| w_il 3 <| w_cv c8 2 11 <| w_i2l <| w_l2 (fun x y => x + y) <| w_ls 1 <| w_cl 31 <| w_ll 1 <| w_l2 (fun x y => x * y) <| w_al 0 <| w_il 3 <| w_cv c9 2 11 <| w_i2l <| w_l2 (fun x y => x + y) <| w_ls 1 <| w_cl 31 <| w_ll 1 <| w_l2 (fun x y => x * y) <| w_al 0 <| w_c 9 <| w_il 3 <| w_cv c10 3 11 <| w_i2l <| w_l2 (fun x y => x + y) <| w_ls 1 <| w_inc 3 1 <| (I 59)
def b_N_digest_106 (c0 c1 c2 c3 c4 c5 c6 c7 c8 c9 c10 c11 c12 c13 : ra_Sp) (I : Nat → ra_K) (Z : ra_R) : ra_K := w_cl 31 <| w_ll 1 <| w_l2 (fun x y => x * y) <| w_al 0 <| w_il 3 <| w_al 0 <| w_gi 11 7 <| w_il 4 <| w_cv c3 4 11 <| w_i2l <| w_l2 (fun x y => x + y) <| w_ls 1 <| w_inc 4 1 <| (I 100)
def b_N_digest_100 (c0 c1 c2 c3 c4 c5 c6 c7 c8 c9 c10 c11 c12 c13 : ra_Sp) (I : Nat → ra_K) (Z : ra_R) : ra_K := w_il 4 <| w_c 4 <| w_b2 (fun x y => y ≤ x) (b_N_digest_131 c0 c1 c2 c3 c4 c5 c6 c7 c8 c9 c10 c11 c12 c13 I Z) (b_N_digest_106 c0 c1 c2 c3 c4 c5 c6 c7 c8 c9 c10 c11 c12 c13 I Z)
def b_N_digest_97 (c0 c1 c2 c3 c4 c5 c6 c7 c8 c9 c10 c11 c12 c13 : ra_Sp) (I : Nat → ra_K) (Z : ra_R) : ra_K := w_c 0 <| w_is 4 <| (I 100)
def b_N_digest_76 (c0 c1 c2 c3 c4 c5 c6 c7 c8 c9 c10 c11 c12 c13 : ra_Sp) (I : Nat → ra_K) (Z : ra_R) : ra_K := w_cl 31 <| w_ll 1 <| w_l2 (fun x y => x * y) <| w_al 0 <| w_il 3 <| w_il 4 <| w_cv c2 3 11 <| w_i2l <| w_l2 (fun x y => x + y) <| w_ls 1 <| w_inc 4 1 <| (I 70)
def b_N_digest_70 (c0 c1 c2 c3 c4 c5 c6 c7 c8 c9 c10 c11 c12 c13 : ra_Sp) (I : Nat → ra_K) (Z : ra_R) : ra_K := w_il 4 <| w_c 5 <| w_b2 (fun x y => y ≤ x) (b_N_digest_97 c0 c1 c2 c3 c4 c5 c6 c7 c8 c9 c10 c11 c12 c13 I Z) (b_N_digest_76 c0 c1 c2 c3 c4 c5 c6 c7 c8 c9 c10 c11 c12 c13 I Z)
def b_N_digest_67 (c0 c1 c2 c3 c4 c5 c6 c7 c8 c9 c10 c11 c12 c13 : ra_Sp) (I : Nat → ra_K) (Z : ra_R) : ra_K := w_c 0 <| w_is 4 <| (I 70)
def b_N_digest_59 (c0 c1 c2 c3 c4 c5 c6 c7 c8 c9 c10 c11 c12 c13 : ra_Sp) (I : Nat → ra_K) (Z : ra_R) : ra_K := w_il 3 <| w_al 0 <| w_gi 11 2 <| w_b2 (fun x y => y ≤ x) (b_N_digest_250 c0 c1 c2 c3 c4 c5 c6 c7 c8 c9 c10 c11 c12 c13 I Z) (b_N_digest_67 c0 c1 c2 c3 c4 c5 c6 c7 c8 c9 c10 c11 c12 c13 I Z)
def b_N_digest_31 (c0 c1 c2 c3 c4 c5 c6 c7 c8 c9 c10 c11 c12 c13 : ra_Sp) (I : Nat → ra_K) (Z : ra_R) : ra_K := w_cl 31 <| w_ll 1 <| w_l2 (fun x y => x * y) <| w_al 0 <| w_c 0 <| w_cv c1 2 11 <| w_i2l <| w_l2 (fun x y => x + y) <| w_ls 1 <| w_cl 31 <| w_ll 1 <| w_l2 (fun x y => x * y) <| w_al 0 <| w_c 1 <| w_cv c1 2 11 <| w_i2l <| w_l2 (fun x y => x + y) <| w_ls 1 <| w_c 0 <| w_is 3 <| (I 59)
def b_N_digest_12 (c0 c1 c2 c3 c4 c5 c6 c7 c8 c9 c10 c11 c12 c13 : ra_Sp) (I : Nat → ra_K) (Z : ra_R) : ra_K := w_cl 31 <| w_ll 1 <| w_l2 (fun x y => x * y) <| w_al 0 <| w_il 3 <| w_cv c0 2 11 <| w_i2l <| w_l2 (fun x y => x + y) <| w_ls 1 <| w_inc 3 1 <| (I 6)
def b_N_digest_6 (c0 c1 c2 c3 c4 c5 c6 c7 c8 c9 c10 c11 c12 c13 : ra_Sp) (I : Nat → ra_K) (Z : ra_R) : ra_K := w_il 3 <| w_c 8 <| w_b2 (fun x y => y ≤ x) (b_N_digest_31 c0 c1 c2 c3 c4 c5 c6 c7 c8 c9 c10 c11 c12 c13 I Z) (b_N_digest_12 c0 c1 c2 c3 c4 c5 c6 c7 c8 c9 c10 c11 c12 c13 I Z)
def b_N_digest_0 (c0 c1 c2 c3 c4 c5 c6 c7 c8 c9 c10 c11 c12 c13 : ra_Sp) (I : Nat → ra_K) (Z : ra_R) : ra_K := w_cl 17 <| w_ls 1 <| w_c 0 <| w_is 3 <| (I 6)
theorem o_N_digest_280 {X : ra_X} {p : Program} {l : Launch} {e : Env} {s : State} {m : MethodId} {args : Array Value} {below : List Frame} {meth : Method} {c : Code} {Z : ra_R} {c0 c1 c2 c3 c4 c5 c6 c7 c8 c9 c10 c11 c12 c13 : ra_Sp}  (h0 : ra_MOK l X mi_N_count c0) (h1 : ra_MOK l X mi_N_faultOf c1) (h2 : ra_MOK l X mi_N_houseOf c2) (h3 : ra_MOK l X mi_N_behind c3) (h4 : ra_MOK l X mi_N_ringOf c4) (h5 : ra_MOK l X mi_N_ones c5) (h6 : ra_MOK l X mi_N_dryOf c6) (h7 : ra_MOK l X mi_N_marketOf c7) (h8 : ra_MOK l X mi_N_bestOf c8) (h9 : ra_MOK l X mi_N_couldOf c9) (h10 : ra_MOK l X mi_N_handsOf c10) (h11 : ra_MOK l X mi_N_allOf c11) (h12 : ra_MOK l X mi_N_askOf c12) (h13 : ra_MOK l X mi_N_liarsNow c13) (F : ra_Fx X p rm_N_digest s m args c prog_13_method_76_code 5 cn_N) (hr : meth.sig.returnType = (some .long)) (hlk : meth.locks = false) {I : Nat → ra_K} (hI : ∀ t ∈ [6, 59, 70, 100, 252], ra_At X p l e rm_N_digest s m args below meth c 5 (MQ below (ra_Qc X Z) args s 0 0 (ra_A X)) (I t) t) : ra_At X p l e rm_N_digest s m args below meth c 5 (MQ below (ra_Qc X Z) args s 0 0 (ra_A X)) (b_N_digest_280 c0 c1 c2 c3 c4 c5 c6 c7 c8 c9 c10 c11 c12 c13 I Z) 280 :=
  r_ldc2 F d_N_digest_280 kc_N_246 <| r_lload_n F d_N_digest_283 rfl <| r_lmul F d_N_digest_284 <| r_aload_n F d_N_digest_285 rfl <| r_iconst F d_N_digest_286 (by decide) <| r_callV F h7 (co_N_marketOf (by decide +kernel) (by decide +kernel)) ⟨rfl, by decide +kernel⟩ ⟨rfl, by decide⟩ ml_N_197 im_N_marketOf se_N_marketOf d_N_digest_287 <| r_i2l F d_N_digest_290 <| r_ladd F d_N_digest_291 <| r_lstore_n F d_N_digest_292 rfl (by decide) <| r_ldc2 F d_N_digest_293 kc_N_246 <| r_lload_n F d_N_digest_296 rfl <| r_lmul F d_N_digest_297 <| r_aload_n F d_N_digest_298 rfl <| r_bipush F d_N_digest_299 (by decide) <| r_callV F h7 (co_N_marketOf (by decide +kernel) (by decide +kernel)) ⟨rfl, by decide +kernel⟩ ⟨rfl, by decide⟩ ml_N_197 im_N_marketOf se_N_marketOf d_N_digest_301 <| r_i2l F d_N_digest_304 <| r_ladd F d_N_digest_305 <| r_lstore_n F d_N_digest_306 rfl (by decide) <| r_ldc2 F d_N_digest_307 kc_N_246 <| r_lload_n F d_N_digest_310 rfl <| r_lmul F d_N_digest_311 <| r_aload_n F d_N_digest_312 rfl <| r_iconst F d_N_digest_313 (by decide) <| r_callV F h8 (co_N_bestOf (by decide +kernel) (by decide +kernel)) ⟨rfl, by decide +kernel⟩ ⟨rfl, by decide⟩ ml_N_200 im_N_bestOf se_N_bestOf d_N_digest_314 <| r_i2l F d_N_digest_317 <| r_ladd F d_N_digest_318 <| r_lstore_n F d_N_digest_319 rfl (by decide) <| r_ldc2 F d_N_digest_320 kc_N_246 <| r_lload_n F d_N_digest_323 rfl <| r_lmul F d_N_digest_324 <| r_aload_n F d_N_digest_325 rfl <| r_iconst F d_N_digest_326 (by decide) <| r_callV F h9 (co_N_couldOf (by decide +kernel) (by decide +kernel)) ⟨rfl, by decide +kernel⟩ ⟨rfl, by decide⟩ ml_N_215 im_N_couldOf se_N_couldOf d_N_digest_327 <| r_i2l F d_N_digest_330 <| r_ladd F d_N_digest_331 <| r_lstore_n F d_N_digest_332 rfl (by decide) <| r_ldc2 F d_N_digest_333 kc_N_246 <| r_lload_n F d_N_digest_336 rfl <| r_lmul F d_N_digest_337 <| r_aload_n F d_N_digest_338 rfl <| r_iconst F d_N_digest_339 (by decide) <| r_callV F h12 (co_N_askOf (by decide +kernel) (by decide +kernel)) ⟨rfl, by decide +kernel⟩ ⟨rfl, by decide⟩ ml_N_218 im_N_askOf se_N_askOf d_N_digest_340 <| r_i2l F d_N_digest_343 <| r_ladd F d_N_digest_344 <| r_lstore_n F d_N_digest_345 rfl (by decide) <| r_ldc2 F d_N_digest_346 kc_N_246 <| r_lload_n F d_N_digest_349 rfl <| r_lmul F d_N_digest_350 <| r_aload_n F d_N_digest_351 rfl <| r_iconst F d_N_digest_352 (by decide) <| r_callV F h12 (co_N_askOf (by decide +kernel) (by decide +kernel)) ⟨rfl, by decide +kernel⟩ ⟨rfl, by decide⟩ ml_N_218 im_N_askOf se_N_askOf d_N_digest_353 <| r_i2l F d_N_digest_356 <| r_ladd F d_N_digest_357 <| r_lstore_n F d_N_digest_358 rfl (by decide) <| r_ldc2 F d_N_digest_359 kc_N_246 <| r_lload_n F d_N_digest_362 rfl <| r_lmul F d_N_digest_363 <| r_aload_n F d_N_digest_364 rfl <| r_bipush F d_N_digest_365 (by decide) <| r_iconst F d_N_digest_367 (by decide) <| r_callV F h10 (co_N_handsOf (by decide +kernel) (by decide +kernel)) ⟨rfl, by decide +kernel⟩ ⟨rfl, by decide⟩ ml_N_224 im_N_handsOf se_N_handsOf d_N_digest_368 <| r_i2l F d_N_digest_371 <| r_ladd F d_N_digest_372 <| r_lstore_n F d_N_digest_373 rfl (by decide) <| r_ldc2 F d_N_digest_374 kc_N_246 <| r_lload_n F d_N_digest_377 rfl <| r_lmul F d_N_digest_378 <| r_aload_n F d_N_digest_379 rfl <| r_callV F h13 (co_N_liarsNow (by decide +kernel) (by decide +kernel)) ⟨rfl, by decide +kernel⟩ ⟨rfl, by decide⟩ ml_N_227 im_N_liarsNow se_N_liarsNow d_N_digest_380 <| r_i2l F d_N_digest_383 <| r_ladd F d_N_digest_384 <| r_lreturn F hr hlk d_N_digest_385
theorem o_N_digest_257 {X : ra_X} {p : Program} {l : Launch} {e : Env} {s : State} {m : MethodId} {args : Array Value} {below : List Frame} {meth : Method} {c : Code} {Z : ra_R} {c0 c1 c2 c3 c4 c5 c6 c7 c8 c9 c10 c11 c12 c13 : ra_Sp}  (h0 : ra_MOK l X mi_N_count c0) (h1 : ra_MOK l X mi_N_faultOf c1) (h2 : ra_MOK l X mi_N_houseOf c2) (h3 : ra_MOK l X mi_N_behind c3) (h4 : ra_MOK l X mi_N_ringOf c4) (h5 : ra_MOK l X mi_N_ones c5) (h6 : ra_MOK l X mi_N_dryOf c6) (h7 : ra_MOK l X mi_N_marketOf c7) (h8 : ra_MOK l X mi_N_bestOf c8) (h9 : ra_MOK l X mi_N_couldOf c9) (h10 : ra_MOK l X mi_N_handsOf c10) (h11 : ra_MOK l X mi_N_allOf c11) (h12 : ra_MOK l X mi_N_askOf c12) (h13 : ra_MOK l X mi_N_liarsNow c13) (F : ra_Fx X p rm_N_digest s m args c prog_13_method_76_code 5 cn_N) (hr : meth.sig.returnType = (some .long)) (hlk : meth.locks = false) {I : Nat → ra_K} (hI : ∀ t ∈ [6, 59, 70, 100, 252], ra_At X p l e rm_N_digest s m args below meth c 5 (MQ below (ra_Qc X Z) args s 0 0 (ra_A X)) (I t) t) : ra_At X p l e rm_N_digest s m args below meth c 5 (MQ below (ra_Qc X Z) args s 0 0 (ra_A X)) (b_N_digest_257 c0 c1 c2 c3 c4 c5 c6 c7 c8 c9 c10 c11 c12 c13 I Z) 257 :=
  r_ldc2 F d_N_digest_257 kc_N_246 <| r_lload_n F d_N_digest_260 rfl <| r_lmul F d_N_digest_261 <| r_aload_n F d_N_digest_262 rfl <| r_aload_n F d_N_digest_263 rfl <| r_getI F cg_N (j := 7) (by decide) rfl fl_N_147 d_N_digest_264 <| r_iload_n F d_N_digest_267 rfl <| r_callV F h11 (co_N_allOf (by decide +kernel) (by decide +kernel)) ⟨rfl, by decide +kernel⟩ ⟨rfl, by decide⟩ ml_N_176 im_N_allOf se_N_allOf d_N_digest_268 <| r_i2l F d_N_digest_271 <| r_ladd F d_N_digest_272 <| r_lstore_n F d_N_digest_273 rfl (by decide) <| r_iinc F d_N_digest_274 (by decide) (by decide) <| r_goto F d_N_digest_277 (by decide) (hI 252 (by decide))
theorem o_N_digest_252 {X : ra_X} {p : Program} {l : Launch} {e : Env} {s : State} {m : MethodId} {args : Array Value} {below : List Frame} {meth : Method} {c : Code} {Z : ra_R} {c0 c1 c2 c3 c4 c5 c6 c7 c8 c9 c10 c11 c12 c13 : ra_Sp}  (h0 : ra_MOK l X mi_N_count c0) (h1 : ra_MOK l X mi_N_faultOf c1) (h2 : ra_MOK l X mi_N_houseOf c2) (h3 : ra_MOK l X mi_N_behind c3) (h4 : ra_MOK l X mi_N_ringOf c4) (h5 : ra_MOK l X mi_N_ones c5) (h6 : ra_MOK l X mi_N_dryOf c6) (h7 : ra_MOK l X mi_N_marketOf c7) (h8 : ra_MOK l X mi_N_bestOf c8) (h9 : ra_MOK l X mi_N_couldOf c9) (h10 : ra_MOK l X mi_N_handsOf c10) (h11 : ra_MOK l X mi_N_allOf c11) (h12 : ra_MOK l X mi_N_askOf c12) (h13 : ra_MOK l X mi_N_liarsNow c13) (F : ra_Fx X p rm_N_digest s m args c prog_13_method_76_code 5 cn_N) (hr : meth.sig.returnType = (some .long)) (hlk : meth.locks = false) {I : Nat → ra_K} (hI : ∀ t ∈ [6, 59, 70, 100, 252], ra_At X p l e rm_N_digest s m args below meth c 5 (MQ below (ra_Qc X Z) args s 0 0 (ra_A X)) (I t) t) : ra_At X p l e rm_N_digest s m args below meth c 5 (MQ below (ra_Qc X Z) args s 0 0 (ra_A X)) (b_N_digest_252 c0 c1 c2 c3 c4 c5 c6 c7 c8 c9 c10 c11 c12 c13 I Z) 252 :=
  r_iload_n F d_N_digest_252 rfl <| r_iconst F d_N_digest_253 (by decide) <| r_icmp_ge F d_N_digest_254 (by decide) (o_N_digest_280 h0 h1 h2 h3 h4 h5 h6 h7 h8 h9 h10 h11 h12 h13 F hr hlk hI) (o_N_digest_257 h0 h1 h2 h3 h4 h5 h6 h7 h8 h9 h10 h11 h12 h13 F hr hlk hI)
theorem o_N_digest_250 {X : ra_X} {p : Program} {l : Launch} {e : Env} {s : State} {m : MethodId} {args : Array Value} {below : List Frame} {meth : Method} {c : Code} {Z : ra_R} {c0 c1 c2 c3 c4 c5 c6 c7 c8 c9 c10 c11 c12 c13 : ra_Sp}  (h0 : ra_MOK l X mi_N_count c0) (h1 : ra_MOK l X mi_N_faultOf c1) (h2 : ra_MOK l X mi_N_houseOf c2) (h3 : ra_MOK l X mi_N_behind c3) (h4 : ra_MOK l X mi_N_ringOf c4) (h5 : ra_MOK l X mi_N_ones c5) (h6 : ra_MOK l X mi_N_dryOf c6) (h7 : ra_MOK l X mi_N_marketOf c7) (h8 : ra_MOK l X mi_N_bestOf c8) (h9 : ra_MOK l X mi_N_couldOf c9) (h10 : ra_MOK l X mi_N_handsOf c10) (h11 : ra_MOK l X mi_N_allOf c11) (h12 : ra_MOK l X mi_N_askOf c12) (h13 : ra_MOK l X mi_N_liarsNow c13) (F : ra_Fx X p rm_N_digest s m args c prog_13_method_76_code 5 cn_N) (hr : meth.sig.returnType = (some .long)) (hlk : meth.locks = false) {I : Nat → ra_K} (hI : ∀ t ∈ [6, 59, 70, 100, 252], ra_At X p l e rm_N_digest s m args below meth c 5 (MQ below (ra_Qc X Z) args s 0 0 (ra_A X)) (I t) t) : ra_At X p l e rm_N_digest s m args below meth c 5 (MQ below (ra_Qc X Z) args s 0 0 (ra_A X)) (b_N_digest_250 c0 c1 c2 c3 c4 c5 c6 c7 c8 c9 c10 c11 c12 c13 I Z) 250 :=
  r_iconst F d_N_digest_250 (by decide) <| r_istore_n F d_N_digest_251 rfl (by decide) <| (hI 252 (by decide))
theorem o_N_digest_131 {X : ra_X} {p : Program} {l : Launch} {e : Env} {s : State} {m : MethodId} {args : Array Value} {below : List Frame} {meth : Method} {c : Code} {Z : ra_R} {c0 c1 c2 c3 c4 c5 c6 c7 c8 c9 c10 c11 c12 c13 : ra_Sp}  (h0 : ra_MOK l X mi_N_count c0) (h1 : ra_MOK l X mi_N_faultOf c1) (h2 : ra_MOK l X mi_N_houseOf c2) (h3 : ra_MOK l X mi_N_behind c3) (h4 : ra_MOK l X mi_N_ringOf c4) (h5 : ra_MOK l X mi_N_ones c5) (h6 : ra_MOK l X mi_N_dryOf c6) (h7 : ra_MOK l X mi_N_marketOf c7) (h8 : ra_MOK l X mi_N_bestOf c8) (h9 : ra_MOK l X mi_N_couldOf c9) (h10 : ra_MOK l X mi_N_handsOf c10) (h11 : ra_MOK l X mi_N_allOf c11) (h12 : ra_MOK l X mi_N_askOf c12) (h13 : ra_MOK l X mi_N_liarsNow c13) (F : ra_Fx X p rm_N_digest s m args c prog_13_method_76_code 5 cn_N) (hr : meth.sig.returnType = (some .long)) (hlk : meth.locks = false) {I : Nat → ra_K} (hI : ∀ t ∈ [6, 59, 70, 100, 252], ra_At X p l e rm_N_digest s m args below meth c 5 (MQ below (ra_Qc X Z) args s 0 0 (ra_A X)) (I t) t) : ra_At X p l e rm_N_digest s m args below meth c 5 (MQ below (ra_Qc X Z) args s 0 0 (ra_A X)) (b_N_digest_131 c0 c1 c2 c3 c4 c5 c6 c7 c8 c9 c10 c11 c12 c13 I Z) 131 :=
  r_ldc2 F d_N_digest_131 kc_N_246 <| r_lload_n F d_N_digest_134 rfl <| r_lmul F d_N_digest_135 <| r_aload_n F d_N_digest_136 rfl <| r_iload_n F d_N_digest_137 rfl <| r_callV F h4 (co_N_ringOf (by decide +kernel) (by decide +kernel)) ⟨rfl, by decide +kernel⟩ ⟨rfl, by decide⟩ ml_N_179 im_N_ringOf se_N_ringOf d_N_digest_138 <| r_i2l F d_N_digest_141 <| r_ladd F d_N_digest_142 <| r_lstore_n F d_N_digest_143 rfl (by decide) <| r_ldc2 F d_N_digest_144 kc_N_246 <| r_lload_n F d_N_digest_147 rfl <| r_lmul F d_N_digest_148 <| r_aload_n F d_N_digest_149 rfl <| r_iload_n F d_N_digest_150 rfl <| r_callV F h4 (co_N_ringOf (by decide +kernel) (by decide +kernel)) ⟨rfl, by decide +kernel⟩ ⟨rfl, by decide⟩ ml_N_179 im_N_ringOf se_N_ringOf d_N_digest_151 <| r_callS F h5 (co_N_ones (by decide +kernel) (by decide +kernel)) ⟨rfl, by decide +kernel⟩ ml_N_182 st_N_ones d_N_digest_154 <| r_i2l F d_N_digest_157 <| r_ladd F d_N_digest_158 <| r_lstore_n F d_N_digest_159 rfl (by decide) <| r_ldc2 F d_N_digest_160 kc_N_246 <| r_lload_n F d_N_digest_163 rfl <| r_lmul F d_N_digest_164 <| r_aload_n F d_N_digest_165 rfl <| r_iload_n F d_N_digest_166 rfl <| r_iconst F d_N_digest_167 (by decide) <| r_iconst F d_N_digest_168 (by decide) <| r_callV F h6 (co_N_dryOf (by decide +kernel) (by decide +kernel)) ⟨rfl, by decide +kernel⟩ ⟨rfl, by decide⟩ ml_N_185 im_N_dryOf se_N_dryOf d_N_digest_169 <| r_i2l F d_N_digest_172 <| r_ladd F d_N_digest_173 <| r_lstore_n F d_N_digest_174 rfl (by decide) <| r_ldc2 F d_N_digest_175 kc_N_246 <| r_lload_n F d_N_digest_178 rfl <| r_lmul F d_N_digest_179 <| r_aload_n F d_N_digest_180 rfl <| r_iload_n F d_N_digest_181 rfl <| r_iconst F d_N_digest_182 (by decide) <| r_iconst F d_N_digest_183 (by decide) <| r_callV F h6 (co_N_dryOf (by decide +kernel) (by decide +kernel)) ⟨rfl, by decide +kernel⟩ ⟨rfl, by decide⟩ ml_N_185 im_N_dryOf se_N_dryOf d_N_digest_184 <| r_i2l F d_N_digest_187 <| r_ladd F d_N_digest_188 <| r_lstore_n F d_N_digest_189 rfl (by decide) <| r_ldc2 F d_N_digest_190 kc_N_246 <| r_lload_n F d_N_digest_193 rfl <| r_lmul F d_N_digest_194 <| r_aload_n F d_N_digest_195 rfl <| r_iload_n F d_N_digest_196 rfl <| r_callV F h7 (co_N_marketOf (by decide +kernel) (by decide +kernel)) ⟨rfl, by decide +kernel⟩ ⟨rfl, by decide⟩ ml_N_197 im_N_marketOf se_N_marketOf d_N_digest_197 <| r_i2l F d_N_digest_200 <| r_ladd F d_N_digest_201 <| r_lstore_n F d_N_digest_202 rfl (by decide) <| r_ldc2 F d_N_digest_203 kc_N_246 <| r_lload_n F d_N_digest_206 rfl <| r_lmul F d_N_digest_207 <| r_aload_n F d_N_digest_208 rfl <| r_iload_n F d_N_digest_209 rfl <| r_callV F h8 (co_N_bestOf (by decide +kernel) (by decide +kernel)) ⟨rfl, by decide +kernel⟩ ⟨rfl, by decide⟩ ml_N_200 im_N_bestOf se_N_bestOf d_N_digest_210 <| r_i2l F d_N_digest_213 <| r_ladd F d_N_digest_214 <| r_lstore_n F d_N_digest_215 rfl (by decide) <| r_ldc2 F d_N_digest_216 kc_N_246 <| r_lload_n F d_N_digest_219 rfl <| r_lmul F d_N_digest_220 <| r_aload_n F d_N_digest_221 rfl <| r_iload_n F d_N_digest_222 rfl <| r_callV F h9 (co_N_couldOf (by decide +kernel) (by decide +kernel)) ⟨rfl, by decide +kernel⟩ ⟨rfl, by decide⟩ ml_N_215 im_N_couldOf se_N_couldOf d_N_digest_223 <| r_i2l F d_N_digest_226 <| r_ladd F d_N_digest_227 <| r_lstore_n F d_N_digest_228 rfl (by decide) <| r_ldc2 F d_N_digest_229 kc_N_246 <| r_lload_n F d_N_digest_232 rfl <| r_lmul F d_N_digest_233 <| r_aload_n F d_N_digest_234 rfl <| r_bipush F d_N_digest_235 (by decide) <| r_iload_n F d_N_digest_237 rfl <| r_callV F h10 (co_N_handsOf (by decide +kernel) (by decide +kernel)) ⟨rfl, by decide +kernel⟩ ⟨rfl, by decide⟩ ml_N_224 im_N_handsOf se_N_handsOf d_N_digest_238 <| r_i2l F d_N_digest_241 <| r_ladd F d_N_digest_242 <| r_lstore_n F d_N_digest_243 rfl (by decide) <| r_iinc F d_N_digest_244 (by decide) (by decide) <| r_goto F d_N_digest_247 (by decide) (hI 59 (by decide))
theorem o_N_digest_106 {X : ra_X} {p : Program} {l : Launch} {e : Env} {s : State} {m : MethodId} {args : Array Value} {below : List Frame} {meth : Method} {c : Code} {Z : ra_R} {c0 c1 c2 c3 c4 c5 c6 c7 c8 c9 c10 c11 c12 c13 : ra_Sp}  (h0 : ra_MOK l X mi_N_count c0) (h1 : ra_MOK l X mi_N_faultOf c1) (h2 : ra_MOK l X mi_N_houseOf c2) (h3 : ra_MOK l X mi_N_behind c3) (h4 : ra_MOK l X mi_N_ringOf c4) (h5 : ra_MOK l X mi_N_ones c5) (h6 : ra_MOK l X mi_N_dryOf c6) (h7 : ra_MOK l X mi_N_marketOf c7) (h8 : ra_MOK l X mi_N_bestOf c8) (h9 : ra_MOK l X mi_N_couldOf c9) (h10 : ra_MOK l X mi_N_handsOf c10) (h11 : ra_MOK l X mi_N_allOf c11) (h12 : ra_MOK l X mi_N_askOf c12) (h13 : ra_MOK l X mi_N_liarsNow c13) (F : ra_Fx X p rm_N_digest s m args c prog_13_method_76_code 5 cn_N) (hr : meth.sig.returnType = (some .long)) (hlk : meth.locks = false) {I : Nat → ra_K} (hI : ∀ t ∈ [6, 59, 70, 100, 252], ra_At X p l e rm_N_digest s m args below meth c 5 (MQ below (ra_Qc X Z) args s 0 0 (ra_A X)) (I t) t) : ra_At X p l e rm_N_digest s m args below meth c 5 (MQ below (ra_Qc X Z) args s 0 0 (ra_A X)) (b_N_digest_106 c0 c1 c2 c3 c4 c5 c6 c7 c8 c9 c10 c11 c12 c13 I Z) 106 :=
  r_ldc2 F d_N_digest_106 kc_N_246 <| r_lload_n F d_N_digest_109 rfl <| r_lmul F d_N_digest_110 <| r_aload_n F d_N_digest_111 rfl <| r_iload_n F d_N_digest_112 rfl <| r_aload_n F d_N_digest_113 rfl <| r_getI F cg_N (j := 7) (by decide) rfl fl_N_147 d_N_digest_114 <| r_iload F d_N_digest_117 <| r_callV F h3 (co_N_behind (by decide +kernel) (by decide +kernel)) ⟨rfl, by decide +kernel⟩ ⟨rfl, by decide⟩ ml_N_172 im_N_behind se_N_behind d_N_digest_119 <| r_i2l F d_N_digest_122 <| r_ladd F d_N_digest_123 <| r_lstore_n F d_N_digest_124 rfl (by decide) <| r_iinc F d_N_digest_125 (by decide) (by decide) <| r_goto F d_N_digest_128 (by decide) (hI 100 (by decide))
theorem o_N_digest_100 {X : ra_X} {p : Program} {l : Launch} {e : Env} {s : State} {m : MethodId} {args : Array Value} {below : List Frame} {meth : Method} {c : Code} {Z : ra_R} {c0 c1 c2 c3 c4 c5 c6 c7 c8 c9 c10 c11 c12 c13 : ra_Sp}  (h0 : ra_MOK l X mi_N_count c0) (h1 : ra_MOK l X mi_N_faultOf c1) (h2 : ra_MOK l X mi_N_houseOf c2) (h3 : ra_MOK l X mi_N_behind c3) (h4 : ra_MOK l X mi_N_ringOf c4) (h5 : ra_MOK l X mi_N_ones c5) (h6 : ra_MOK l X mi_N_dryOf c6) (h7 : ra_MOK l X mi_N_marketOf c7) (h8 : ra_MOK l X mi_N_bestOf c8) (h9 : ra_MOK l X mi_N_couldOf c9) (h10 : ra_MOK l X mi_N_handsOf c10) (h11 : ra_MOK l X mi_N_allOf c11) (h12 : ra_MOK l X mi_N_askOf c12) (h13 : ra_MOK l X mi_N_liarsNow c13) (F : ra_Fx X p rm_N_digest s m args c prog_13_method_76_code 5 cn_N) (hr : meth.sig.returnType = (some .long)) (hlk : meth.locks = false) {I : Nat → ra_K} (hI : ∀ t ∈ [6, 59, 70, 100, 252], ra_At X p l e rm_N_digest s m args below meth c 5 (MQ below (ra_Qc X Z) args s 0 0 (ra_A X)) (I t) t) : ra_At X p l e rm_N_digest s m args below meth c 5 (MQ below (ra_Qc X Z) args s 0 0 (ra_A X)) (b_N_digest_100 c0 c1 c2 c3 c4 c5 c6 c7 c8 c9 c10 c11 c12 c13 I Z) 100 :=
  r_iload F d_N_digest_100 <| r_iconst F d_N_digest_102 (by decide) <| r_icmp_ge F d_N_digest_103 (by decide) (o_N_digest_131 h0 h1 h2 h3 h4 h5 h6 h7 h8 h9 h10 h11 h12 h13 F hr hlk hI) (o_N_digest_106 h0 h1 h2 h3 h4 h5 h6 h7 h8 h9 h10 h11 h12 h13 F hr hlk hI)
theorem o_N_digest_97 {X : ra_X} {p : Program} {l : Launch} {e : Env} {s : State} {m : MethodId} {args : Array Value} {below : List Frame} {meth : Method} {c : Code} {Z : ra_R} {c0 c1 c2 c3 c4 c5 c6 c7 c8 c9 c10 c11 c12 c13 : ra_Sp}  (h0 : ra_MOK l X mi_N_count c0) (h1 : ra_MOK l X mi_N_faultOf c1) (h2 : ra_MOK l X mi_N_houseOf c2) (h3 : ra_MOK l X mi_N_behind c3) (h4 : ra_MOK l X mi_N_ringOf c4) (h5 : ra_MOK l X mi_N_ones c5) (h6 : ra_MOK l X mi_N_dryOf c6) (h7 : ra_MOK l X mi_N_marketOf c7) (h8 : ra_MOK l X mi_N_bestOf c8) (h9 : ra_MOK l X mi_N_couldOf c9) (h10 : ra_MOK l X mi_N_handsOf c10) (h11 : ra_MOK l X mi_N_allOf c11) (h12 : ra_MOK l X mi_N_askOf c12) (h13 : ra_MOK l X mi_N_liarsNow c13) (F : ra_Fx X p rm_N_digest s m args c prog_13_method_76_code 5 cn_N) (hr : meth.sig.returnType = (some .long)) (hlk : meth.locks = false) {I : Nat → ra_K} (hI : ∀ t ∈ [6, 59, 70, 100, 252], ra_At X p l e rm_N_digest s m args below meth c 5 (MQ below (ra_Qc X Z) args s 0 0 (ra_A X)) (I t) t) : ra_At X p l e rm_N_digest s m args below meth c 5 (MQ below (ra_Qc X Z) args s 0 0 (ra_A X)) (b_N_digest_97 c0 c1 c2 c3 c4 c5 c6 c7 c8 c9 c10 c11 c12 c13 I Z) 97 :=
  r_iconst F d_N_digest_97 (by decide) <| r_istore F d_N_digest_98 (by decide) <| (hI 100 (by decide))
theorem o_N_digest_76 {X : ra_X} {p : Program} {l : Launch} {e : Env} {s : State} {m : MethodId} {args : Array Value} {below : List Frame} {meth : Method} {c : Code} {Z : ra_R} {c0 c1 c2 c3 c4 c5 c6 c7 c8 c9 c10 c11 c12 c13 : ra_Sp}  (h0 : ra_MOK l X mi_N_count c0) (h1 : ra_MOK l X mi_N_faultOf c1) (h2 : ra_MOK l X mi_N_houseOf c2) (h3 : ra_MOK l X mi_N_behind c3) (h4 : ra_MOK l X mi_N_ringOf c4) (h5 : ra_MOK l X mi_N_ones c5) (h6 : ra_MOK l X mi_N_dryOf c6) (h7 : ra_MOK l X mi_N_marketOf c7) (h8 : ra_MOK l X mi_N_bestOf c8) (h9 : ra_MOK l X mi_N_couldOf c9) (h10 : ra_MOK l X mi_N_handsOf c10) (h11 : ra_MOK l X mi_N_allOf c11) (h12 : ra_MOK l X mi_N_askOf c12) (h13 : ra_MOK l X mi_N_liarsNow c13) (F : ra_Fx X p rm_N_digest s m args c prog_13_method_76_code 5 cn_N) (hr : meth.sig.returnType = (some .long)) (hlk : meth.locks = false) {I : Nat → ra_K} (hI : ∀ t ∈ [6, 59, 70, 100, 252], ra_At X p l e rm_N_digest s m args below meth c 5 (MQ below (ra_Qc X Z) args s 0 0 (ra_A X)) (I t) t) : ra_At X p l e rm_N_digest s m args below meth c 5 (MQ below (ra_Qc X Z) args s 0 0 (ra_A X)) (b_N_digest_76 c0 c1 c2 c3 c4 c5 c6 c7 c8 c9 c10 c11 c12 c13 I Z) 76 :=
  r_ldc2 F d_N_digest_76 kc_N_246 <| r_lload_n F d_N_digest_79 rfl <| r_lmul F d_N_digest_80 <| r_aload_n F d_N_digest_81 rfl <| r_iload_n F d_N_digest_82 rfl <| r_iload F d_N_digest_83 <| r_callV F h2 (co_N_houseOf (by decide +kernel) (by decide +kernel)) ⟨rfl, by decide +kernel⟩ ⟨rfl, by decide⟩ ml_N_144 im_N_houseOf se_N_houseOf d_N_digest_85 <| r_i2l F d_N_digest_88 <| r_ladd F d_N_digest_89 <| r_lstore_n F d_N_digest_90 rfl (by decide) <| r_iinc F d_N_digest_91 (by decide) (by decide) <| r_goto F d_N_digest_94 (by decide) (hI 70 (by decide))
theorem o_N_digest_70 {X : ra_X} {p : Program} {l : Launch} {e : Env} {s : State} {m : MethodId} {args : Array Value} {below : List Frame} {meth : Method} {c : Code} {Z : ra_R} {c0 c1 c2 c3 c4 c5 c6 c7 c8 c9 c10 c11 c12 c13 : ra_Sp}  (h0 : ra_MOK l X mi_N_count c0) (h1 : ra_MOK l X mi_N_faultOf c1) (h2 : ra_MOK l X mi_N_houseOf c2) (h3 : ra_MOK l X mi_N_behind c3) (h4 : ra_MOK l X mi_N_ringOf c4) (h5 : ra_MOK l X mi_N_ones c5) (h6 : ra_MOK l X mi_N_dryOf c6) (h7 : ra_MOK l X mi_N_marketOf c7) (h8 : ra_MOK l X mi_N_bestOf c8) (h9 : ra_MOK l X mi_N_couldOf c9) (h10 : ra_MOK l X mi_N_handsOf c10) (h11 : ra_MOK l X mi_N_allOf c11) (h12 : ra_MOK l X mi_N_askOf c12) (h13 : ra_MOK l X mi_N_liarsNow c13) (F : ra_Fx X p rm_N_digest s m args c prog_13_method_76_code 5 cn_N) (hr : meth.sig.returnType = (some .long)) (hlk : meth.locks = false) {I : Nat → ra_K} (hI : ∀ t ∈ [6, 59, 70, 100, 252], ra_At X p l e rm_N_digest s m args below meth c 5 (MQ below (ra_Qc X Z) args s 0 0 (ra_A X)) (I t) t) : ra_At X p l e rm_N_digest s m args below meth c 5 (MQ below (ra_Qc X Z) args s 0 0 (ra_A X)) (b_N_digest_70 c0 c1 c2 c3 c4 c5 c6 c7 c8 c9 c10 c11 c12 c13 I Z) 70 :=
  r_iload F d_N_digest_70 <| r_iconst F d_N_digest_72 (by decide) <| r_icmp_ge F d_N_digest_73 (by decide) (o_N_digest_97 h0 h1 h2 h3 h4 h5 h6 h7 h8 h9 h10 h11 h12 h13 F hr hlk hI) (o_N_digest_76 h0 h1 h2 h3 h4 h5 h6 h7 h8 h9 h10 h11 h12 h13 F hr hlk hI)
theorem o_N_digest_67 {X : ra_X} {p : Program} {l : Launch} {e : Env} {s : State} {m : MethodId} {args : Array Value} {below : List Frame} {meth : Method} {c : Code} {Z : ra_R} {c0 c1 c2 c3 c4 c5 c6 c7 c8 c9 c10 c11 c12 c13 : ra_Sp}  (h0 : ra_MOK l X mi_N_count c0) (h1 : ra_MOK l X mi_N_faultOf c1) (h2 : ra_MOK l X mi_N_houseOf c2) (h3 : ra_MOK l X mi_N_behind c3) (h4 : ra_MOK l X mi_N_ringOf c4) (h5 : ra_MOK l X mi_N_ones c5) (h6 : ra_MOK l X mi_N_dryOf c6) (h7 : ra_MOK l X mi_N_marketOf c7) (h8 : ra_MOK l X mi_N_bestOf c8) (h9 : ra_MOK l X mi_N_couldOf c9) (h10 : ra_MOK l X mi_N_handsOf c10) (h11 : ra_MOK l X mi_N_allOf c11) (h12 : ra_MOK l X mi_N_askOf c12) (h13 : ra_MOK l X mi_N_liarsNow c13) (F : ra_Fx X p rm_N_digest s m args c prog_13_method_76_code 5 cn_N) (hr : meth.sig.returnType = (some .long)) (hlk : meth.locks = false) {I : Nat → ra_K} (hI : ∀ t ∈ [6, 59, 70, 100, 252], ra_At X p l e rm_N_digest s m args below meth c 5 (MQ below (ra_Qc X Z) args s 0 0 (ra_A X)) (I t) t) : ra_At X p l e rm_N_digest s m args below meth c 5 (MQ below (ra_Qc X Z) args s 0 0 (ra_A X)) (b_N_digest_67 c0 c1 c2 c3 c4 c5 c6 c7 c8 c9 c10 c11 c12 c13 I Z) 67 :=
  r_iconst F d_N_digest_67 (by decide) <| r_istore F d_N_digest_68 (by decide) <| (hI 70 (by decide))
theorem o_N_digest_59 {X : ra_X} {p : Program} {l : Launch} {e : Env} {s : State} {m : MethodId} {args : Array Value} {below : List Frame} {meth : Method} {c : Code} {Z : ra_R} {c0 c1 c2 c3 c4 c5 c6 c7 c8 c9 c10 c11 c12 c13 : ra_Sp}  (h0 : ra_MOK l X mi_N_count c0) (h1 : ra_MOK l X mi_N_faultOf c1) (h2 : ra_MOK l X mi_N_houseOf c2) (h3 : ra_MOK l X mi_N_behind c3) (h4 : ra_MOK l X mi_N_ringOf c4) (h5 : ra_MOK l X mi_N_ones c5) (h6 : ra_MOK l X mi_N_dryOf c6) (h7 : ra_MOK l X mi_N_marketOf c7) (h8 : ra_MOK l X mi_N_bestOf c8) (h9 : ra_MOK l X mi_N_couldOf c9) (h10 : ra_MOK l X mi_N_handsOf c10) (h11 : ra_MOK l X mi_N_allOf c11) (h12 : ra_MOK l X mi_N_askOf c12) (h13 : ra_MOK l X mi_N_liarsNow c13) (F : ra_Fx X p rm_N_digest s m args c prog_13_method_76_code 5 cn_N) (hr : meth.sig.returnType = (some .long)) (hlk : meth.locks = false) {I : Nat → ra_K} (hI : ∀ t ∈ [6, 59, 70, 100, 252], ra_At X p l e rm_N_digest s m args below meth c 5 (MQ below (ra_Qc X Z) args s 0 0 (ra_A X)) (I t) t) : ra_At X p l e rm_N_digest s m args below meth c 5 (MQ below (ra_Qc X Z) args s 0 0 (ra_A X)) (b_N_digest_59 c0 c1 c2 c3 c4 c5 c6 c7 c8 c9 c10 c11 c12 c13 I Z) 59 :=
  r_iload_n F d_N_digest_59 rfl <| r_aload_n F d_N_digest_60 rfl <| r_getI F cg_N (j := 2) (by decide) rfl fl_N_109 d_N_digest_61 <| r_icmp_ge F d_N_digest_64 (by decide) (o_N_digest_250 h0 h1 h2 h3 h4 h5 h6 h7 h8 h9 h10 h11 h12 h13 F hr hlk hI) (o_N_digest_67 h0 h1 h2 h3 h4 h5 h6 h7 h8 h9 h10 h11 h12 h13 F hr hlk hI)
theorem o_N_digest_31 {X : ra_X} {p : Program} {l : Launch} {e : Env} {s : State} {m : MethodId} {args : Array Value} {below : List Frame} {meth : Method} {c : Code} {Z : ra_R} {c0 c1 c2 c3 c4 c5 c6 c7 c8 c9 c10 c11 c12 c13 : ra_Sp}  (h0 : ra_MOK l X mi_N_count c0) (h1 : ra_MOK l X mi_N_faultOf c1) (h2 : ra_MOK l X mi_N_houseOf c2) (h3 : ra_MOK l X mi_N_behind c3) (h4 : ra_MOK l X mi_N_ringOf c4) (h5 : ra_MOK l X mi_N_ones c5) (h6 : ra_MOK l X mi_N_dryOf c6) (h7 : ra_MOK l X mi_N_marketOf c7) (h8 : ra_MOK l X mi_N_bestOf c8) (h9 : ra_MOK l X mi_N_couldOf c9) (h10 : ra_MOK l X mi_N_handsOf c10) (h11 : ra_MOK l X mi_N_allOf c11) (h12 : ra_MOK l X mi_N_askOf c12) (h13 : ra_MOK l X mi_N_liarsNow c13) (F : ra_Fx X p rm_N_digest s m args c prog_13_method_76_code 5 cn_N) (hr : meth.sig.returnType = (some .long)) (hlk : meth.locks = false) {I : Nat → ra_K} (hI : ∀ t ∈ [6, 59, 70, 100, 252], ra_At X p l e rm_N_digest s m args below meth c 5 (MQ below (ra_Qc X Z) args s 0 0 (ra_A X)) (I t) t) : ra_At X p l e rm_N_digest s m args below meth c 5 (MQ below (ra_Qc X Z) args s 0 0 (ra_A X)) (b_N_digest_31 c0 c1 c2 c3 c4 c5 c6 c7 c8 c9 c10 c11 c12 c13 I Z) 31 :=
  r_ldc2 F d_N_digest_31 kc_N_246 <| r_lload_n F d_N_digest_34 rfl <| r_lmul F d_N_digest_35 <| r_aload_n F d_N_digest_36 rfl <| r_iconst F d_N_digest_37 (by decide) <| r_callV F h1 (co_N_faultOf (by decide +kernel) (by decide +kernel)) ⟨rfl, by decide +kernel⟩ ⟨rfl, by decide⟩ ml_N_130 im_N_faultOf se_N_faultOf d_N_digest_38 <| r_i2l F d_N_digest_41 <| r_ladd F d_N_digest_42 <| r_lstore_n F d_N_digest_43 rfl (by decide) <| r_ldc2 F d_N_digest_44 kc_N_246 <| r_lload_n F d_N_digest_47 rfl <| r_lmul F d_N_digest_48 <| r_aload_n F d_N_digest_49 rfl <| r_iconst F d_N_digest_50 (by decide) <| r_callV F h1 (co_N_faultOf (by decide +kernel) (by decide +kernel)) ⟨rfl, by decide +kernel⟩ ⟨rfl, by decide⟩ ml_N_130 im_N_faultOf se_N_faultOf d_N_digest_51 <| r_i2l F d_N_digest_54 <| r_ladd F d_N_digest_55 <| r_lstore_n F d_N_digest_56 rfl (by decide) <| r_iconst F d_N_digest_57 (by decide) <| r_istore_n F d_N_digest_58 rfl (by decide) <| (hI 59 (by decide))
theorem o_N_digest_12 {X : ra_X} {p : Program} {l : Launch} {e : Env} {s : State} {m : MethodId} {args : Array Value} {below : List Frame} {meth : Method} {c : Code} {Z : ra_R} {c0 c1 c2 c3 c4 c5 c6 c7 c8 c9 c10 c11 c12 c13 : ra_Sp}  (h0 : ra_MOK l X mi_N_count c0) (h1 : ra_MOK l X mi_N_faultOf c1) (h2 : ra_MOK l X mi_N_houseOf c2) (h3 : ra_MOK l X mi_N_behind c3) (h4 : ra_MOK l X mi_N_ringOf c4) (h5 : ra_MOK l X mi_N_ones c5) (h6 : ra_MOK l X mi_N_dryOf c6) (h7 : ra_MOK l X mi_N_marketOf c7) (h8 : ra_MOK l X mi_N_bestOf c8) (h9 : ra_MOK l X mi_N_couldOf c9) (h10 : ra_MOK l X mi_N_handsOf c10) (h11 : ra_MOK l X mi_N_allOf c11) (h12 : ra_MOK l X mi_N_askOf c12) (h13 : ra_MOK l X mi_N_liarsNow c13) (F : ra_Fx X p rm_N_digest s m args c prog_13_method_76_code 5 cn_N) (hr : meth.sig.returnType = (some .long)) (hlk : meth.locks = false) {I : Nat → ra_K} (hI : ∀ t ∈ [6, 59, 70, 100, 252], ra_At X p l e rm_N_digest s m args below meth c 5 (MQ below (ra_Qc X Z) args s 0 0 (ra_A X)) (I t) t) : ra_At X p l e rm_N_digest s m args below meth c 5 (MQ below (ra_Qc X Z) args s 0 0 (ra_A X)) (b_N_digest_12 c0 c1 c2 c3 c4 c5 c6 c7 c8 c9 c10 c11 c12 c13 I Z) 12 :=
  r_ldc2 F d_N_digest_12 kc_N_246 <| r_lload_n F d_N_digest_15 rfl <| r_lmul F d_N_digest_16 <| r_aload_n F d_N_digest_17 rfl <| r_iload_n F d_N_digest_18 rfl <| r_callV F h0 (co_N_count (by decide +kernel) (by decide +kernel)) ⟨rfl, by decide +kernel⟩ ⟨rfl, by decide⟩ ml_N_248 im_N_count se_N_count d_N_digest_19 <| r_i2l F d_N_digest_22 <| r_ladd F d_N_digest_23 <| r_lstore_n F d_N_digest_24 rfl (by decide) <| r_iinc F d_N_digest_25 (by decide) (by decide) <| r_goto F d_N_digest_28 (by decide) (hI 6 (by decide))
theorem o_N_digest_6 {X : ra_X} {p : Program} {l : Launch} {e : Env} {s : State} {m : MethodId} {args : Array Value} {below : List Frame} {meth : Method} {c : Code} {Z : ra_R} {c0 c1 c2 c3 c4 c5 c6 c7 c8 c9 c10 c11 c12 c13 : ra_Sp}  (h0 : ra_MOK l X mi_N_count c0) (h1 : ra_MOK l X mi_N_faultOf c1) (h2 : ra_MOK l X mi_N_houseOf c2) (h3 : ra_MOK l X mi_N_behind c3) (h4 : ra_MOK l X mi_N_ringOf c4) (h5 : ra_MOK l X mi_N_ones c5) (h6 : ra_MOK l X mi_N_dryOf c6) (h7 : ra_MOK l X mi_N_marketOf c7) (h8 : ra_MOK l X mi_N_bestOf c8) (h9 : ra_MOK l X mi_N_couldOf c9) (h10 : ra_MOK l X mi_N_handsOf c10) (h11 : ra_MOK l X mi_N_allOf c11) (h12 : ra_MOK l X mi_N_askOf c12) (h13 : ra_MOK l X mi_N_liarsNow c13) (F : ra_Fx X p rm_N_digest s m args c prog_13_method_76_code 5 cn_N) (hr : meth.sig.returnType = (some .long)) (hlk : meth.locks = false) {I : Nat → ra_K} (hI : ∀ t ∈ [6, 59, 70, 100, 252], ra_At X p l e rm_N_digest s m args below meth c 5 (MQ below (ra_Qc X Z) args s 0 0 (ra_A X)) (I t) t) : ra_At X p l e rm_N_digest s m args below meth c 5 (MQ below (ra_Qc X Z) args s 0 0 (ra_A X)) (b_N_digest_6 c0 c1 c2 c3 c4 c5 c6 c7 c8 c9 c10 c11 c12 c13 I Z) 6 :=
  r_iload_n F d_N_digest_6 rfl <| r_bipush F d_N_digest_7 (by decide) <| r_icmp_ge F d_N_digest_9 (by decide) (o_N_digest_31 h0 h1 h2 h3 h4 h5 h6 h7 h8 h9 h10 h11 h12 h13 F hr hlk hI) (o_N_digest_12 h0 h1 h2 h3 h4 h5 h6 h7 h8 h9 h10 h11 h12 h13 F hr hlk hI)
theorem o_N_digest_0 {X : ra_X} {p : Program} {l : Launch} {e : Env} {s : State} {m : MethodId} {args : Array Value} {below : List Frame} {meth : Method} {c : Code} {Z : ra_R} {c0 c1 c2 c3 c4 c5 c6 c7 c8 c9 c10 c11 c12 c13 : ra_Sp}  (h0 : ra_MOK l X mi_N_count c0) (h1 : ra_MOK l X mi_N_faultOf c1) (h2 : ra_MOK l X mi_N_houseOf c2) (h3 : ra_MOK l X mi_N_behind c3) (h4 : ra_MOK l X mi_N_ringOf c4) (h5 : ra_MOK l X mi_N_ones c5) (h6 : ra_MOK l X mi_N_dryOf c6) (h7 : ra_MOK l X mi_N_marketOf c7) (h8 : ra_MOK l X mi_N_bestOf c8) (h9 : ra_MOK l X mi_N_couldOf c9) (h10 : ra_MOK l X mi_N_handsOf c10) (h11 : ra_MOK l X mi_N_allOf c11) (h12 : ra_MOK l X mi_N_askOf c12) (h13 : ra_MOK l X mi_N_liarsNow c13) (F : ra_Fx X p rm_N_digest s m args c prog_13_method_76_code 5 cn_N) (hr : meth.sig.returnType = (some .long)) (hlk : meth.locks = false) {I : Nat → ra_K} (hI : ∀ t ∈ [6, 59, 70, 100, 252], ra_At X p l e rm_N_digest s m args below meth c 5 (MQ below (ra_Qc X Z) args s 0 0 (ra_A X)) (I t) t) : ra_At X p l e rm_N_digest s m args below meth c 5 (MQ below (ra_Qc X Z) args s 0 0 (ra_A X)) (b_N_digest_0 c0 c1 c2 c3 c4 c5 c6 c7 c8 c9 c10 c11 c12 c13 I Z) 0 :=
  r_ldc2 F d_N_digest_0 kc_N_244 <| r_lstore_n F d_N_digest_3 rfl (by decide) <| r_iconst F d_N_digest_4 (by decide) <| r_istore_n F d_N_digest_5 rfl (by decide) <| (hI 6 (by decide))
theorem g_N_digest {l : Launch} {X : ra_X} {c0 c1 c2 c3 c4 c5 c6 c7 c8 c9 c10 c11 c12 c13 : ra_Sp}  (h0 : ra_MOK l X mi_N_count c0) (h1 : ra_MOK l X mi_N_faultOf c1) (h2 : ra_MOK l X mi_N_houseOf c2) (h3 : ra_MOK l X mi_N_behind c3) (h4 : ra_MOK l X mi_N_ringOf c4) (h5 : ra_MOK l X mi_N_ones c5) (h6 : ra_MOK l X mi_N_dryOf c6) (h7 : ra_MOK l X mi_N_marketOf c7) (h8 : ra_MOK l X mi_N_bestOf c8) (h9 : ra_MOK l X mi_N_couldOf c9) (h10 : ra_MOK l X mi_N_handsOf c10) (h11 : ra_MOK l X mi_N_allOf c11) (h12 : ra_MOK l X mi_N_askOf c12) (h13 : ra_MOK l X mi_N_liarsNow c13) (sp : ra_Sp) (I : ra_R → List Value → ra_St → Nat → ra_M → ra_K) (ve : ∀ as σ Z, ra_c1 as = true → as.length = 1 → sp as σ Z → b_N_digest_0 c0 c1 c2 c3 c4 c5 c6 c7 c8 c9 c10 c11 c12 c13 (ra_I (I Z as σ)) Z (ra_pad 5 as) [] σ) (v6 : ∀ as σ Z, sp as σ Z → ∀ μ L S σ1, I Z as σ 6 μ L S σ1 → b_N_digest_6 c0 c1 c2 c3 c4 c5 c6 c7 c8 c9 c10 c11 c12 c13 (ra_J (I Z as σ) μ) Z L S σ1) (v59 : ∀ as σ Z, sp as σ Z → ∀ μ L S σ1, I Z as σ 59 μ L S σ1 → b_N_digest_59 c0 c1 c2 c3 c4 c5 c6 c7 c8 c9 c10 c11 c12 c13 (ra_J (I Z as σ) μ) Z L S σ1) (v70 : ∀ as σ Z, sp as σ Z → ∀ μ L S σ1, I Z as σ 70 μ L S σ1 → b_N_digest_70 c0 c1 c2 c3 c4 c5 c6 c7 c8 c9 c10 c11 c12 c13 (ra_J (I Z as σ) μ) Z L S σ1) (v100 : ∀ as σ Z, sp as σ Z → ∀ μ L S σ1, I Z as σ 100 μ L S σ1 → b_N_digest_100 c0 c1 c2 c3 c4 c5 c6 c7 c8 c9 c10 c11 c12 c13 (ra_J (I Z as σ) μ) Z L S σ1) (v252 : ∀ as σ Z, sp as σ Z → ∀ μ L S σ1, I Z as σ 252 μ L S σ1 → b_N_digest_252 c0 c1 c2 c3 c4 c5 c6 c7 c8 c9 c10 c11 c12 c13 (ra_J (I Z as σ) μ) Z L S σ1) : ra_MOK l X mi_N_digest sp := by
  refine ra_enter (k := fun Z as σ => b_N_digest_0 c0 c1 c2 c3 c4 c5 c6 c7 c8 c9 c10 c11 c12 c13 (ra_I (I Z as σ)) Z) cn_N rfl (by decide +kernel) ⟨by decide +kernel, by decide +kernel⟩ (by decide +kernel) ?_ ve
  intro p e s m args below meth c Z as σ hsp F hr hlk
  refine o_N_digest_0 h0 h1 h2 h3 h4 h5 h6 h7 h8 h9 h10 h11 h12 h13 F hr hlk (ra_cuts (b := fun t J => if t = 6 then b_N_digest_6 c0 c1 c2 c3 c4 c5 c6 c7 c8 c9 c10 c11 c12 c13 J Z else if t = 59 then b_N_digest_59 c0 c1 c2 c3 c4 c5 c6 c7 c8 c9 c10 c11 c12 c13 J Z else if t = 70 then b_N_digest_70 c0 c1 c2 c3 c4 c5 c6 c7 c8 c9 c10 c11 c12 c13 J Z else if t = 100 then b_N_digest_100 c0 c1 c2 c3 c4 c5 c6 c7 c8 c9 c10 c11 c12 c13 J Z else if t = 252 then b_N_digest_252 c0 c1 c2 c3 c4 c5 c6 c7 c8 c9 c10 c11 c12 c13 J Z else fun _ _ _ => False) ?_ ?_)
  · intro t ht J hJ
    simp only [List.mem_cons, List.not_mem_nil, or_false] at ht
    rcases ht with rfl | rfl | rfl | rfl | rfl
    · exact o_N_digest_6 h0 h1 h2 h3 h4 h5 h6 h7 h8 h9 h10 h11 h12 h13 F hr hlk hJ
    · exact o_N_digest_59 h0 h1 h2 h3 h4 h5 h6 h7 h8 h9 h10 h11 h12 h13 F hr hlk hJ
    · exact o_N_digest_70 h0 h1 h2 h3 h4 h5 h6 h7 h8 h9 h10 h11 h12 h13 F hr hlk hJ
    · exact o_N_digest_100 h0 h1 h2 h3 h4 h5 h6 h7 h8 h9 h10 h11 h12 h13 F hr hlk hJ
    · exact o_N_digest_252 h0 h1 h2 h3 h4 h5 h6 h7 h8 h9 h10 h11 h12 h13 F hr hlk hJ
  · intro t ht μ L S σ1 hI
    simp only [List.mem_cons, List.not_mem_nil, or_false] at ht
    rcases ht with rfl | rfl | rfl | rfl | rfl
    · exact v6 as σ Z hsp μ L S σ1 hI
    · exact v59 as σ Z hsp μ L S σ1 hI
    · exact v70 as σ Z hsp μ L S σ1 hI
    · exact v100 as σ Z hsp μ L S σ1 hI
    · exact v252 as σ Z hsp μ L S σ1 hI
