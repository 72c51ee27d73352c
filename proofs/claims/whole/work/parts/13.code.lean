theorem d_Kn_countAhead_0 : decode prog_5_method_7_code 0 = .ok (.aload_n 0, 1) := by decide +kernel
theorem d_Kn_countAhead_1 : decode prog_5_method_7_code 1 = .ok (.getfield 24, 3) := by decide +kernel
theorem d_Kn_countAhead_4 : decode prog_5_method_7_code 4 = .ok (.iconst 0, 1) := by decide +kernel
theorem d_Kn_countAhead_5 : decode prog_5_method_7_code 5 = .ok (.iconst 1, 1) := by decide +kernel
theorem d_Kn_countAhead_6 : decode prog_5_method_7_code 6 = .ok (.iastore, 1) := by decide +kernel
theorem d_Kn_countAhead_7 : decode prog_5_method_7_code 7 = .ok (.iconst 1, 1) := by decide +kernel
theorem d_Kn_countAhead_8 : decode prog_5_method_7_code 8 = .ok (.istore_n 2, 1) := by decide +kernel
theorem d_Kn_countAhead_9 : decode prog_5_method_7_code 9 = .ok (.iload_n 2, 1) := by decide +kernel
theorem d_Kn_countAhead_10 : decode prog_5_method_7_code 10 = .ok (.iload_n 1, 1) := by decide +kernel
theorem d_Kn_countAhead_11 : decode prog_5_method_7_code 11 = .ok (.if_icmp .gt 90, 3) := by decide +kernel
theorem d_Kn_countAhead_14 : decode prog_5_method_7_code 14 = .ok (.iload_n 2, 1) := by decide +kernel
theorem d_Kn_countAhead_15 : decode prog_5_method_7_code 15 = .ok (.invokestatic 70, 3) := by decide +kernel
theorem d_Kn_countAhead_18 : decode prog_5_method_7_code 18 = .ok (.iconst 1, 1) := by decide +kernel
theorem d_Kn_countAhead_19 : decode prog_5_method_7_code 19 = .ok (.isub, 1) := by decide +kernel
theorem d_Kn_countAhead_20 : decode prog_5_method_7_code 20 = .ok (.istore_n 3, 1) := by decide +kernel
theorem d_Kn_countAhead_21 : decode prog_5_method_7_code 21 = .ok (.aload_n 0, 1) := by decide +kernel
theorem d_Kn_countAhead_22 : decode prog_5_method_7_code 22 = .ok (.getfield 21, 3) := by decide +kernel
theorem d_Kn_countAhead_25 : decode prog_5_method_7_code 25 = .ok (.iload_n 3, 1) := by decide +kernel
theorem d_Kn_countAhead_26 : decode prog_5_method_7_code 26 = .ok (.iaload, 1) := by decide +kernel
theorem d_Kn_countAhead_27 : decode prog_5_method_7_code 27 = .ok (.iload_n 2, 1) := by decide +kernel
theorem d_Kn_countAhead_28 : decode prog_5_method_7_code 28 = .ok (.iand, 1) := by decide +kernel
theorem d_Kn_countAhead_29 : decode prog_5_method_7_code 29 = .ok (.istore 4, 2) := by decide +kernel
theorem d_Kn_countAhead_31 : decode prog_5_method_7_code 31 = .ok (.iconst 0, 1) := by decide +kernel
theorem d_Kn_countAhead_32 : decode prog_5_method_7_code 32 = .ok (.istore 5, 2) := by decide +kernel
theorem d_Kn_countAhead_34 : decode prog_5_method_7_code 34 = .ok (.iconst 0, 1) := by decide +kernel
theorem d_Kn_countAhead_35 : decode prog_5_method_7_code 35 = .ok (.istore 6, 2) := by decide +kernel
theorem d_Kn_countAhead_37 : decode prog_5_method_7_code 37 = .ok (.iload 6, 2) := by decide +kernel
theorem d_Kn_countAhead_39 : decode prog_5_method_7_code 39 = .ok (.aload_n 0, 1) := by decide +kernel
theorem d_Kn_countAhead_40 : decode prog_5_method_7_code 40 = .ok (.getfield 39, 3) := by decide +kernel
theorem d_Kn_countAhead_43 : decode prog_5_method_7_code 43 = .ok (.getfield 52, 3) := by decide +kernel
theorem d_Kn_countAhead_46 : decode prog_5_method_7_code 46 = .ok (.if_icmp .ge 41, 3) := by decide +kernel
theorem d_Kn_countAhead_49 : decode prog_5_method_7_code 49 = .ok (.iload 5, 2) := by decide +kernel
theorem d_Kn_countAhead_51 : decode prog_5_method_7_code 51 = .ok (.iload 4, 2) := by decide +kernel
theorem d_Kn_countAhead_53 : decode prog_5_method_7_code 53 = .ok (.iload 6, 2) := by decide +kernel
theorem d_Kn_countAhead_55 : decode prog_5_method_7_code 55 = .ok (.invokestatic 76, 3) := by decide +kernel
theorem d_Kn_countAhead_58 : decode prog_5_method_7_code 58 = .ok (.ifCond .eq 19, 3) := by decide +kernel
theorem d_Kn_countAhead_61 : decode prog_5_method_7_code 61 = .ok (.aload_n 0, 1) := by decide +kernel
theorem d_Kn_countAhead_62 : decode prog_5_method_7_code 62 = .ok (.getfield 24, 3) := by decide +kernel
theorem d_Kn_countAhead_65 : decode prog_5_method_7_code 65 = .ok (.iload_n 2, 1) := by decide +kernel
theorem d_Kn_countAhead_66 : decode prog_5_method_7_code 66 = .ok (.iconst 1, 1) := by decide +kernel
theorem d_Kn_countAhead_67 : decode prog_5_method_7_code 67 = .ok (.iload 6, 2) := by decide +kernel
theorem d_Kn_countAhead_69 : decode prog_5_method_7_code 69 = .ok (.ishl, 1) := by decide +kernel
theorem d_Kn_countAhead_70 : decode prog_5_method_7_code 70 = .ok (.iconst (-1), 1) := by decide +kernel
theorem d_Kn_countAhead_71 : decode prog_5_method_7_code 71 = .ok (.ixor, 1) := by decide +kernel
theorem d_Kn_countAhead_72 : decode prog_5_method_7_code 72 = .ok (.iand, 1) := by decide +kernel
theorem d_Kn_countAhead_73 : decode prog_5_method_7_code 73 = .ok (.iaload, 1) := by decide +kernel
theorem d_Kn_countAhead_74 : decode prog_5_method_7_code 74 = .ok (.goto 4, 3) := by decide +kernel
theorem d_Kn_countAhead_77 : decode prog_5_method_7_code 77 = .ok (.iconst 0, 1) := by decide +kernel
theorem d_Kn_countAhead_78 : decode prog_5_method_7_code 78 = .ok (.iadd, 1) := by decide +kernel
theorem d_Kn_countAhead_79 : decode prog_5_method_7_code 79 = .ok (.istore 5, 2) := by decide +kernel
theorem d_Kn_countAhead_81 : decode prog_5_method_7_code 81 = .ok (.iinc 6 1, 3) := by decide +kernel
theorem d_Kn_countAhead_84 : decode prog_5_method_7_code 84 = .ok (.goto (-47), 3) := by decide +kernel
theorem d_Kn_countAhead_87 : decode prog_5_method_7_code 87 = .ok (.aload_n 0, 1) := by decide +kernel
theorem d_Kn_countAhead_88 : decode prog_5_method_7_code 88 = .ok (.getfield 24, 3) := by decide +kernel
theorem d_Kn_countAhead_91 : decode prog_5_method_7_code 91 = .ok (.iload_n 2, 1) := by decide +kernel
theorem d_Kn_countAhead_92 : decode prog_5_method_7_code 92 = .ok (.iload 5, 2) := by decide +kernel
theorem d_Kn_countAhead_94 : decode prog_5_method_7_code 94 = .ok (.iastore, 1) := by decide +kernel
theorem d_Kn_countAhead_95 : decode prog_5_method_7_code 95 = .ok (.iinc 2 1, 3) := by decide +kernel
theorem d_Kn_countAhead_98 : decode prog_5_method_7_code 98 = .ok (.goto (-89), 3) := by decide +kernel
theorem d_Kn_countAhead_101 : decode prog_5_method_7_code 101 = .ok (.return_, 1) := by decide +kernel
def b_Kn_countAhead_101 (c0 c1 : ra_Sp) (I : Nat → ra_K) (Z : ra_R) : ra_K := w_vr Z
def b_Kn_countAhead_87 (c0 c1 : ra_Sp) (I : Nat → ra_K) (Z : ra_R) : ra_K := w_al 0 <| w_gr 8 5 <| w_il 2 <| w_il 5 <| w_ast <| w_inc 2 1 <| (I 9)
def b_Kn_countAhead_78 (c0 c1 : ra_Sp) (I : Nat → ra_K) (Z : ra_R) : ra_K := w_i2 (fun x y => x + y) <| w_is 5 <| w_inc 6 1 <| (I 37)
def b_Kn_countAhead_77 (c0 c1 : ra_Sp) (I : Nat → ra_K) (Z : ra_R) : ra_K := w_c 0 <| (b_Kn_countAhead_78 c0 c1 I Z)
def b_Kn_countAhead_61 (c0 c1 : ra_Sp) (I : Nat → ra_K) (Z : ra_R) : ra_K := w_al 0 <| w_gr 8 5 <| w_il 2 <| w_c 1 <| w_il 6 <| w_i2 (fun x y => x <<< (y &&& 31)) <| w_c (-1) <| w_i2 (fun x y => x ^^^ y) <| w_i2 (fun x y => x &&& y) <| w_ald <| (b_Kn_countAhead_78 c0 c1 I Z)
def b_Kn_countAhead_49 (c0 c1 : ra_Sp) (I : Nat → ra_K) (Z : ra_R) : ra_K := w_il 5 <| w_il 4 <| w_il 6 <| w_cs c1 2 <| w_b1 (fun x => x = 0) (b_Kn_countAhead_77 c0 c1 I Z) (b_Kn_countAhead_61 c0 c1 I Z)
def b_Kn_countAhead_37 (c0 c1 : ra_Sp) (I : Nat → ra_K) (Z : ra_R) : ra_K := w_il 6 <| w_al 0 <| w_gr 8 0 <| w_gi 1 8 <| w_b2 (fun x y => y ≤ x) (b_Kn_countAhead_87 c0 c1 I Z) (b_Kn_countAhead_49 c0 c1 I Z)
def b_Kn_countAhead_14 (c0 c1 : ra_Sp) (I : Nat → ra_K) (Z : ra_R) : ra_K := w_il 2 <| w_cs c0 1 <| w_c 1 <| w_i2 (fun x y => x - y) <| w_is 3 <| w_al 0 <| w_gr 8 4 <| w_il 3 <| w_ald <| w_il 2 <| w_i2 (fun x y => x &&& y) <| w_is 4 <| w_c 0 <| w_is 5 <| w_c 0 <| w_is 6 <| (I 37)
def b_Kn_countAhead_9 (c0 c1 : ra_Sp) (I : Nat → ra_K) (Z : ra_R) : ra_K := w_il 2 <| w_il 1 <| w_b2 (fun x y => y < x) (b_Kn_countAhead_101 c0 c1 I Z) (b_Kn_countAhead_14 c0 c1 I Z)
def b_Kn_countAhead_0 (c0 c1 : ra_Sp) (I : Nat → ra_K) (Z : ra_R) : ra_K := w_al 0 <| w_gr 8 5 <| w_c 0 <| w_c 1 <| w_ast <| w_c 1 <| w_is 2 <| (I 9)
theorem o_Kn_countAhead_101 {X : ra_X} {p : Program} {l : Launch} {e : Env} {s : State} {m : MethodId} {args : Array Value} {below : List Frame} {meth : Method} {c : Code} {Z : ra_R} {c0 c1 : ra_Sp}  (h0 : ra_MOK l X mi_J_bitCount c0) (h1 : ra_MOK l X mi_R_has c1) (F : ra_Fx X p rm_Kn_countAhead s m args c prog_5_method_7_code 7 cn_Kn) (hr : meth.sig.returnType = none) (hlk : meth.locks = false) {I : Nat → ra_K} (hI : ∀ t ∈ [9, 37], ra_At X p l e rm_Kn_countAhead s m args below meth c 7 (MQ below (ra_Qc X Z) args s 0 0 (ra_A X)) (I t) t) : ra_At X p l e rm_Kn_countAhead s m args below meth c 7 (MQ below (ra_Qc X Z) args s 0 0 (ra_A X)) (b_Kn_countAhead_101 c0 c1 I Z) 101 :=
  r_return F hr hlk d_Kn_countAhead_101
theorem o_Kn_countAhead_87 {X : ra_X} {p : Program} {l : Launch} {e : Env} {s : State} {m : MethodId} {args : Array Value} {below : List Frame} {meth : Method} {c : Code} {Z : ra_R} {c0 c1 : ra_Sp}  (h0 : ra_MOK l X mi_J_bitCount c0) (h1 : ra_MOK l X mi_R_has c1) (F : ra_Fx X p rm_Kn_countAhead s m args c prog_5_method_7_code 7 cn_Kn) (hr : meth.sig.returnType = none) (hlk : meth.locks = false) {I : Nat → ra_K} (hI : ∀ t ∈ [9, 37], ra_At X p l e rm_Kn_countAhead s m args below meth c 7 (MQ below (ra_Qc X Z) args s 0 0 (ra_A X)) (I t) t) : ra_At X p l e rm_Kn_countAhead s m args below meth c 7 (MQ below (ra_Qc X Z) args s 0 0 (ra_A X)) (b_Kn_countAhead_87 c0 c1 I Z) 87 :=
  r_aload_n F d_Kn_countAhead_87 rfl <| r_getR F cg_Kn (j := 5) (by decide) rfl fl_Kn_24 d_Kn_countAhead_88 <| r_iload_n F d_Kn_countAhead_91 rfl <| r_iload F d_Kn_countAhead_92 <| r_iastore F d_Kn_countAhead_94 <| r_iinc F d_Kn_countAhead_95 (by decide) (by decide) <| r_goto F d_Kn_countAhead_98 (by decide) (hI 9 (by decide))
theorem o_Kn_countAhead_78 {X : ra_X} {p : Program} {l : Launch} {e : Env} {s : State} {m : MethodId} {args : Array Value} {below : List Frame} {meth : Method} {c : Code} {Z : ra_R} {c0 c1 : ra_Sp}  (h0 : ra_MOK l X mi_J_bitCount c0) (h1 : ra_MOK l X mi_R_has c1) (F : ra_Fx X p rm_Kn_countAhead s m args c prog_5_method_7_code 7 cn_Kn) (hr : meth.sig.returnType = none) (hlk : meth.locks = false) {I : Nat → ra_K} (hI : ∀ t ∈ [9, 37], ra_At X p l e rm_Kn_countAhead s m args below meth c 7 (MQ below (ra_Qc X Z) args s 0 0 (ra_A X)) (I t) t) : ra_At X p l e rm_Kn_countAhead s m args below meth c 7 (MQ below (ra_Qc X Z) args s 0 0 (ra_A X)) (b_Kn_countAhead_78 c0 c1 I Z) 78 :=
  r_iadd F d_Kn_countAhead_78 <| r_istore F d_Kn_countAhead_79 (by decide) <| r_iinc F d_Kn_countAhead_81 (by decide) (by decide) <| r_goto F d_Kn_countAhead_84 (by decide) (hI 37 (by decide))
theorem o_Kn_countAhead_77 {X : ra_X} {p : Program} {l : Launch} {e : Env} {s : State} {m : MethodId} {args : Array Value} {below : List Frame} {meth : Method} {c : Code} {Z : ra_R} {c0 c1 : ra_Sp}  (h0 : ra_MOK l X mi_J_bitCount c0) (h1 : ra_MOK l X mi_R_has c1) (F : ra_Fx X p rm_Kn_countAhead s m args c prog_5_method_7_code 7 cn_Kn) (hr : meth.sig.returnType = none) (hlk : meth.locks = false) {I : Nat → ra_K} (hI : ∀ t ∈ [9, 37], ra_At X p l e rm_Kn_countAhead s m args below meth c 7 (MQ below (ra_Qc X Z) args s 0 0 (ra_A X)) (I t) t) : ra_At X p l e rm_Kn_countAhead s m args below meth c 7 (MQ below (ra_Qc X Z) args s 0 0 (ra_A X)) (b_Kn_countAhead_77 c0 c1 I Z) 77 :=
  r_iconst F d_Kn_countAhead_77 (by decide) <| (o_Kn_countAhead_78 h0 h1 F hr hlk hI)
theorem o_Kn_countAhead_61 {X : ra_X} {p : Program} {l : Launch} {e : Env} {s : State} {m : MethodId} {args : Array Value} {below : List Frame} {meth : Method} {c : Code} {Z : ra_R} {c0 c1 : ra_Sp}  (h0 : ra_MOK l X mi_J_bitCount c0) (h1 : ra_MOK l X mi_R_has c1) (F : ra_Fx X p rm_Kn_countAhead s m args c prog_5_method_7_code 7 cn_Kn) (hr : meth.sig.returnType = none) (hlk : meth.locks = false) {I : Nat → ra_K} (hI : ∀ t ∈ [9, 37], ra_At X p l e rm_Kn_countAhead s m args below meth c 7 (MQ below (ra_Qc X Z) args s 0 0 (ra_A X)) (I t) t) : ra_At X p l e rm_Kn_countAhead s m args below meth c 7 (MQ below (ra_Qc X Z) args s 0 0 (ra_A X)) (b_Kn_countAhead_61 c0 c1 I Z) 61 :=
  r_aload_n F d_Kn_countAhead_61 rfl <| r_getR F cg_Kn (j := 5) (by decide) rfl fl_Kn_24 d_Kn_countAhead_62 <| r_iload_n F d_Kn_countAhead_65 rfl <| r_iconst F d_Kn_countAhead_66 (by decide) <| r_iload F d_Kn_countAhead_67 <| r_ishl F d_Kn_countAhead_69 <| r_iconst F d_Kn_countAhead_70 (by decide) <| r_ixor F d_Kn_countAhead_71 <| r_iand F d_Kn_countAhead_72 <| r_iaload F d_Kn_countAhead_73 <| r_goto F d_Kn_countAhead_74 (by decide) (o_Kn_countAhead_78 h0 h1 F hr hlk hI)
theorem o_Kn_countAhead_49 {X : ra_X} {p : Program} {l : Launch} {e : Env} {s : State} {m : MethodId} {args : Array Value} {below : List Frame} {meth : Method} {c : Code} {Z : ra_R} {c0 c1 : ra_Sp}  (h0 : ra_MOK l X mi_J_bitCount c0) (h1 : ra_MOK l X mi_R_has c1) (F : ra_Fx X p rm_Kn_countAhead s m args c prog_5_method_7_code 7 cn_Kn) (hr : meth.sig.returnType = none) (hlk : meth.locks = false) {I : Nat → ra_K} (hI : ∀ t ∈ [9, 37], ra_At X p l e rm_Kn_countAhead s m args below meth c 7 (MQ below (ra_Qc X Z) args s 0 0 (ra_A X)) (I t) t) : ra_At X p l e rm_Kn_countAhead s m args below meth c 7 (MQ below (ra_Qc X Z) args s 0 0 (ra_A X)) (b_Kn_countAhead_49 c0 c1 I Z) 49 :=
  r_iload F d_Kn_countAhead_49 <| r_iload F d_Kn_countAhead_51 <| r_iload F d_Kn_countAhead_53 <| r_callSN F h1 (co_R_has (by decide +kernel) (by decide +kernel)) ⟨rfl, by decide +kernel⟩ (host := "RoofAcross") (by decide +kernel) st_R_has d_Kn_countAhead_55 <| r_if_eq F d_Kn_countAhead_58 (by decide) (o_Kn_countAhead_77 h0 h1 F hr hlk hI) (o_Kn_countAhead_61 h0 h1 F hr hlk hI)
theorem o_Kn_countAhead_37 {X : ra_X} {p : Program} {l : Launch} {e : Env} {s : State} {m : MethodId} {args : Array Value} {below : List Frame} {meth : Method} {c : Code} {Z : ra_R} {c0 c1 : ra_Sp}  (h0 : ra_MOK l X mi_J_bitCount c0) (h1 : ra_MOK l X mi_R_has c1) (F : ra_Fx X p rm_Kn_countAhead s m args c prog_5_method_7_code 7 cn_Kn) (hr : meth.sig.returnType = none) (hlk : meth.locks = false) {I : Nat → ra_K} (hI : ∀ t ∈ [9, 37], ra_At X p l e rm_Kn_countAhead s m args below meth c 7 (MQ below (ra_Qc X Z) args s 0 0 (ra_A X)) (I t) t) : ra_At X p l e rm_Kn_countAhead s m args below meth c 7 (MQ below (ra_Qc X Z) args s 0 0 (ra_A X)) (b_Kn_countAhead_37 c0 c1 I Z) 37 :=
  r_iload F d_Kn_countAhead_37 <| r_aload_n F d_Kn_countAhead_39 rfl <| r_getR F cg_Kn (j := 0) (by decide) rfl fl_Kn_39 d_Kn_countAhead_40 <| r_getI F cg_V (j := 8) (by decide) rfl fl_Kn_52 d_Kn_countAhead_43 <| r_icmp_ge F d_Kn_countAhead_46 (by decide) (o_Kn_countAhead_87 h0 h1 F hr hlk hI) (o_Kn_countAhead_49 h0 h1 F hr hlk hI)
theorem o_Kn_countAhead_14 {X : ra_X} {p : Program} {l : Launch} {e : Env} {s : State} {m : MethodId} {args : Array Value} {below : List Frame} {meth : Method} {c : Code} {Z : ra_R} {c0 c1 : ra_Sp}  (h0 : ra_MOK l X mi_J_bitCount c0) (h1 : ra_MOK l X mi_R_has c1) (F : ra_Fx X p rm_Kn_countAhead s m args c prog_5_method_7_code 7 cn_Kn) (hr : meth.sig.returnType = none) (hlk : meth.locks = false) {I : Nat → ra_K} (hI : ∀ t ∈ [9, 37], ra_At X p l e rm_Kn_countAhead s m args below meth c 7 (MQ below (ra_Qc X Z) args s 0 0 (ra_A X)) (I t) t) : ra_At X p l e rm_Kn_countAhead s m args below meth c 7 (MQ below (ra_Qc X Z) args s 0 0 (ra_A X)) (b_Kn_countAhead_14 c0 c1 I Z) 14 :=
  r_iload_n F d_Kn_countAhead_14 rfl <| r_callS F h0 (co_J_bitCount (by decide +kernel) (by decide +kernel)) ⟨rfl, by decide +kernel⟩ ml_Kn_70 st_J_bitCount d_Kn_countAhead_15 <| r_iconst F d_Kn_countAhead_18 (by decide) <| r_isub F d_Kn_countAhead_19 <| r_istore_n F d_Kn_countAhead_20 rfl (by decide) <| r_aload_n F d_Kn_countAhead_21 rfl <| r_getR F cg_Kn (j := 4) (by decide) rfl fl_Kn_21 d_Kn_countAhead_22 <| r_iload_n F d_Kn_countAhead_25 rfl <| r_iaload F d_Kn_countAhead_26 <| r_iload_n F d_Kn_countAhead_27 rfl <| r_iand F d_Kn_countAhead_28 <| r_istore F d_Kn_countAhead_29 (by decide) <| r_iconst F d_Kn_countAhead_31 (by decide) <| r_istore F d_Kn_countAhead_32 (by decide) <| r_iconst F d_Kn_countAhead_34 (by decide) <| r_istore F d_Kn_countAhead_35 (by decide) <| (hI 37 (by decide))
theorem o_Kn_countAhead_9 {X : ra_X} {p : Program} {l : Launch} {e : Env} {s : State} {m : MethodId} {args : Array Value} {below : List Frame} {meth : Method} {c : Code} {Z : ra_R} {c0 c1 : ra_Sp}  (h0 : ra_MOK l X mi_J_bitCount c0) (h1 : ra_MOK l X mi_R_has c1) (F : ra_Fx X p rm_Kn_countAhead s m args c prog_5_method_7_code 7 cn_Kn) (hr : meth.sig.returnType = none) (hlk : meth.locks = false) {I : Nat → ra_K} (hI : ∀ t ∈ [9, 37], ra_At X p l e rm_Kn_countAhead s m args below meth c 7 (MQ below (ra_Qc X Z) args s 0 0 (ra_A X)) (I t) t) : ra_At X p l e rm_Kn_countAhead s m args below meth c 7 (MQ below (ra_Qc X Z) args s 0 0 (ra_A X)) (b_Kn_countAhead_9 c0 c1 I Z) 9 :=
  r_iload_n F d_Kn_countAhead_9 rfl <| r_iload_n F d_Kn_countAhead_10 rfl <| r_icmp_gt F d_Kn_countAhead_11 (by decide) (o_Kn_countAhead_101 h0 h1 F hr hlk hI) (o_Kn_countAhead_14 h0 h1 F hr hlk hI)
theorem o_Kn_countAhead_0 {X : ra_X} {p : Program} {l : Launch} {e : Env} {s : State} {m : MethodId} {args : Array Value} {below : List Frame} {meth : Method} {c : Code} {Z : ra_R} {c0 c1 : ra_Sp}  (h0 : ra_MOK l X mi_J_bitCount c0) (h1 : ra_MOK l X mi_R_has c1) (F : ra_Fx X p rm_Kn_countAhead s m args c prog_5_method_7_code 7 cn_Kn) (hr : meth.sig.returnType = none) (hlk : meth.locks = false) {I : Nat → ra_K} (hI : ∀ t ∈ [9, 37], ra_At X p l e rm_Kn_countAhead s m args below meth c 7 (MQ below (ra_Qc X Z) args s 0 0 (ra_A X)) (I t) t) : ra_At X p l e rm_Kn_countAhead s m args below meth c 7 (MQ below (ra_Qc X Z) args s 0 0 (ra_A X)) (b_Kn_countAhead_0 c0 c1 I Z) 0 :=
  r_aload_n F d_Kn_countAhead_0 rfl <| r_getR F cg_Kn (j := 5) (by decide) rfl fl_Kn_24 d_Kn_countAhead_1 <| r_iconst F d_Kn_countAhead_4 (by decide) <| r_iconst F d_Kn_countAhead_5 (by decide) <| r_iastore F d_Kn_countAhead_6 <| r_iconst F d_Kn_countAhead_7 (by decide) <| r_istore_n F d_Kn_countAhead_8 rfl (by decide) <| (hI 9 (by decide))
theorem g_Kn_countAhead {l : Launch} {X : ra_X} {c0 c1 : ra_Sp}  (h0 : ra_MOK l X mi_J_bitCount c0) (h1 : ra_MOK l X mi_R_has c1) (sp : ra_Sp) (I : ra_R → List Value → ra_St → Nat → ra_M → ra_K) (ve : ∀ as σ Z, ra_c1 as = true → as.length = 2 → sp as σ Z → b_Kn_countAhead_0 c0 c1 (ra_I (I Z as σ)) Z (ra_pad 7 as) [] σ) (v9 : ∀ as σ Z, sp as σ Z → ∀ μ L S σ1, I Z as σ 9 μ L S σ1 → b_Kn_countAhead_9 c0 c1 (ra_J (I Z as σ) μ) Z L S σ1) (v37 : ∀ as σ Z, sp as σ Z → ∀ μ L S σ1, I Z as σ 37 μ L S σ1 → b_Kn_countAhead_37 c0 c1 (ra_J (I Z as σ) μ) Z L S σ1) : ra_MOK l X mi_Kn_countAhead sp := by
  refine ra_enter (k := fun Z as σ => b_Kn_countAhead_0 c0 c1 (ra_I (I Z as σ)) Z) cn_Kn rfl (by decide +kernel) ⟨by decide +kernel, by decide +kernel⟩ (by decide +kernel) ?_ ve
  intro p e s m args below meth c Z as σ hsp F hr hlk
  refine o_Kn_countAhead_0 h0 h1 F hr hlk (ra_cuts (b := fun t J => if t = 9 then b_Kn_countAhead_9 c0 c1 J Z else if t = 37 then b_Kn_countAhead_37 c0 c1 J Z else fun _ _ _ => False) ?_ ?_)
  · intro t ht J hJ
    simp only [List.mem_cons, List.not_mem_nil, or_false] at ht
    rcases ht with rfl | rfl
    · exact o_Kn_countAhead_9 h0 h1 F hr hlk hJ
    · exact o_Kn_countAhead_37 h0 h1 F hr hlk hJ
  · intro t ht μ L S σ1 hI
    simp only [List.mem_cons, List.not_mem_nil, or_false] at ht
    rcases ht with rfl | rfl
    · exact v9 as σ Z hsp μ L S σ1 hI
    · exact v37 as σ Z hsp μ L S σ1 hI

theorem d_Kn_countEach_0 : decode prog_5_method_8_code 0 = .ok (.iconst 0, 1) := by decide +kernel
theorem d_Kn_countEach_1 : decode prog_5_method_8_code 1 = .ok (.istore_n 2, 1) := by decide +kernel
theorem d_Kn_countEach_2 : decode prog_5_method_8_code 2 = .ok (.iload_n 2, 1) := by decide +kernel
theorem d_Kn_countEach_3 : decode prog_5_method_8_code 3 = .ok (.aload_n 0, 1) := by decide +kernel
theorem d_Kn_countEach_4 : decode prog_5_method_8_code 4 = .ok (.getfield 39, 3) := by decide +kernel
theorem d_Kn_countEach_7 : decode prog_5_method_8_code 7 = .ok (.getfield 52, 3) := by decide +kernel
theorem d_Kn_countEach_10 : decode prog_5_method_8_code 10 = .ok (.if_icmp .ge 37, 3) := by decide +kernel
theorem d_Kn_countEach_13 : decode prog_5_method_8_code 13 = .ok (.iconst 0, 1) := by decide +kernel
theorem d_Kn_countEach_14 : decode prog_5_method_8_code 14 = .ok (.istore_n 3, 1) := by decide +kernel
theorem d_Kn_countEach_15 : decode prog_5_method_8_code 15 = .ok (.iload_n 3, 1) := by decide +kernel
theorem d_Kn_countEach_16 : decode prog_5_method_8_code 16 = .ok (.aload_n 0, 1) := by decide +kernel
theorem d_Kn_countEach_17 : decode prog_5_method_8_code 17 = .ok (.getfield 39, 3) := by decide +kernel
theorem d_Kn_countEach_20 : decode prog_5_method_8_code 20 = .ok (.getfield 52, 3) := by decide +kernel
theorem d_Kn_countEach_23 : decode prog_5_method_8_code 23 = .ok (.if_icmp .ge 18, 3) := by decide +kernel
theorem d_Kn_countEach_26 : decode prog_5_method_8_code 26 = .ok (.aload_n 0, 1) := by decide +kernel
theorem d_Kn_countEach_27 : decode prog_5_method_8_code 27 = .ok (.getfield 32, 3) := by decide +kernel
theorem d_Kn_countEach_30 : decode prog_5_method_8_code 30 = .ok (.iload_n 2, 1) := by decide +kernel
theorem d_Kn_countEach_31 : decode prog_5_method_8_code 31 = .ok (.aaload, 1) := by decide +kernel
theorem d_Kn_countEach_32 : decode prog_5_method_8_code 32 = .ok (.iload_n 3, 1) := by decide +kernel
theorem d_Kn_countEach_33 : decode prog_5_method_8_code 33 = .ok (.iconst 0, 1) := by decide +kernel
theorem d_Kn_countEach_34 : decode prog_5_method_8_code 34 = .ok (.iastore, 1) := by decide +kernel
theorem d_Kn_countEach_35 : decode prog_5_method_8_code 35 = .ok (.iinc 3 1, 3) := by decide +kernel
theorem d_Kn_countEach_38 : decode prog_5_method_8_code 38 = .ok (.goto (-23), 3) := by decide +kernel
theorem d_Kn_countEach_41 : decode prog_5_method_8_code 41 = .ok (.iinc 2 1, 3) := by decide +kernel
theorem d_Kn_countEach_44 : decode prog_5_method_8_code 44 = .ok (.goto (-42), 3) := by decide +kernel
theorem d_Kn_countEach_47 : decode prog_5_method_8_code 47 = .ok (.iconst 0, 1) := by decide +kernel
theorem d_Kn_countEach_48 : decode prog_5_method_8_code 48 = .ok (.istore_n 2, 1) := by decide +kernel
theorem d_Kn_countEach_49 : decode prog_5_method_8_code 49 = .ok (.iload_n 2, 1) := by decide +kernel
theorem d_Kn_countEach_50 : decode prog_5_method_8_code 50 = .ok (.iload_n 1, 1) := by decide +kernel
theorem d_Kn_countEach_51 : decode prog_5_method_8_code 51 = .ok (.if_icmp .ge 87, 3) := by decide +kernel
theorem d_Kn_countEach_54 : decode prog_5_method_8_code 54 = .ok (.iload_n 2, 1) := by decide +kernel
theorem d_Kn_countEach_55 : decode prog_5_method_8_code 55 = .ok (.invokestatic 70, 3) := by decide +kernel
theorem d_Kn_countEach_58 : decode prog_5_method_8_code 58 = .ok (.istore_n 3, 1) := by decide +kernel
theorem d_Kn_countEach_59 : decode prog_5_method_8_code 59 = .ok (.aload_n 0, 1) := by decide +kernel
theorem d_Kn_countEach_60 : decode prog_5_method_8_code 60 = .ok (.getfield 21, 3) := by decide +kernel
theorem d_Kn_countEach_63 : decode prog_5_method_8_code 63 = .ok (.iload_n 3, 1) := by decide +kernel
theorem d_Kn_countEach_64 : decode prog_5_method_8_code 64 = .ok (.iaload, 1) := by decide +kernel
theorem d_Kn_countEach_65 : decode prog_5_method_8_code 65 = .ok (.iload_n 2, 1) := by decide +kernel
theorem d_Kn_countEach_66 : decode prog_5_method_8_code 66 = .ok (.iconst (-1), 1) := by decide +kernel
theorem d_Kn_countEach_67 : decode prog_5_method_8_code 67 = .ok (.ixor, 1) := by decide +kernel
theorem d_Kn_countEach_68 : decode prog_5_method_8_code 68 = .ok (.iand, 1) := by decide +kernel
theorem d_Kn_countEach_69 : decode prog_5_method_8_code 69 = .ok (.istore 4, 2) := by decide +kernel
theorem d_Kn_countEach_71 : decode prog_5_method_8_code 71 = .ok (.iconst 0, 1) := by decide +kernel
theorem d_Kn_countEach_72 : decode prog_5_method_8_code 72 = .ok (.istore 5, 2) := by decide +kernel
theorem d_Kn_countEach_74 : decode prog_5_method_8_code 74 = .ok (.iload 5, 2) := by decide +kernel
theorem d_Kn_countEach_76 : decode prog_5_method_8_code 76 = .ok (.aload_n 0, 1) := by decide +kernel
theorem d_Kn_countEach_77 : decode prog_5_method_8_code 77 = .ok (.getfield 39, 3) := by decide +kernel
theorem d_Kn_countEach_80 : decode prog_5_method_8_code 80 = .ok (.getfield 52, 3) := by decide +kernel
theorem d_Kn_countEach_83 : decode prog_5_method_8_code 83 = .ok (.if_icmp .ge 49, 3) := by decide +kernel
theorem d_Kn_countEach_86 : decode prog_5_method_8_code 86 = .ok (.iload 4, 2) := by decide +kernel
theorem d_Kn_countEach_88 : decode prog_5_method_8_code 88 = .ok (.iload 5, 2) := by decide +kernel
theorem d_Kn_countEach_90 : decode prog_5_method_8_code 90 = .ok (.invokestatic 76, 3) := by decide +kernel
theorem d_Kn_countEach_93 : decode prog_5_method_8_code 93 = .ok (.ifCond .eq 33, 3) := by decide +kernel
theorem d_Kn_countEach_96 : decode prog_5_method_8_code 96 = .ok (.aload_n 0, 1) := by decide +kernel
theorem d_Kn_countEach_97 : decode prog_5_method_8_code 97 = .ok (.getfield 32, 3) := by decide +kernel
theorem d_Kn_countEach_100 : decode prog_5_method_8_code 100 = .ok (.iload_n 3, 1) := by decide +kernel
theorem d_Kn_countEach_101 : decode prog_5_method_8_code 101 = .ok (.aaload, 1) := by decide +kernel
theorem d_Kn_countEach_102 : decode prog_5_method_8_code 102 = .ok (.iload 5, 2) := by decide +kernel
theorem d_Kn_countEach_104 : decode prog_5_method_8_code 104 = .ok (.dup2, 1) := by decide +kernel
theorem d_Kn_countEach_105 : decode prog_5_method_8_code 105 = .ok (.iaload, 1) := by decide +kernel
theorem d_Kn_countEach_106 : decode prog_5_method_8_code 106 = .ok (.aload_n 0, 1) := by decide +kernel
theorem d_Kn_countEach_107 : decode prog_5_method_8_code 107 = .ok (.getfield 24, 3) := by decide +kernel
theorem d_Kn_countEach_110 : decode prog_5_method_8_code 110 = .ok (.iload_n 2, 1) := by decide +kernel
theorem d_Kn_countEach_111 : decode prog_5_method_8_code 111 = .ok (.iaload, 1) := by decide +kernel
theorem d_Kn_countEach_112 : decode prog_5_method_8_code 112 = .ok (.aload_n 0, 1) := by decide +kernel
theorem d_Kn_countEach_113 : decode prog_5_method_8_code 113 = .ok (.getfield 27, 3) := by decide +kernel
theorem d_Kn_countEach_116 : decode prog_5_method_8_code 116 = .ok (.iload_n 2, 1) := by decide +kernel
theorem d_Kn_countEach_117 : decode prog_5_method_8_code 117 = .ok (.iconst 1, 1) := by decide +kernel
theorem d_Kn_countEach_118 : decode prog_5_method_8_code 118 = .ok (.iload 5, 2) := by decide +kernel
theorem d_Kn_countEach_120 : decode prog_5_method_8_code 120 = .ok (.ishl, 1) := by decide +kernel
theorem d_Kn_countEach_121 : decode prog_5_method_8_code 121 = .ok (.ior, 1) := by decide +kernel
theorem d_Kn_countEach_122 : decode prog_5_method_8_code 122 = .ok (.iaload, 1) := by decide +kernel
theorem d_Kn_countEach_123 : decode prog_5_method_8_code 123 = .ok (.imul, 1) := by decide +kernel
theorem d_Kn_countEach_124 : decode prog_5_method_8_code 124 = .ok (.iadd, 1) := by decide +kernel
theorem d_Kn_countEach_125 : decode prog_5_method_8_code 125 = .ok (.iastore, 1) := by decide +kernel
theorem d_Kn_countEach_126 : decode prog_5_method_8_code 126 = .ok (.iinc 5 1, 3) := by decide +kernel
theorem d_Kn_countEach_129 : decode prog_5_method_8_code 129 = .ok (.goto (-55), 3) := by decide +kernel
theorem d_Kn_countEach_132 : decode prog_5_method_8_code 132 = .ok (.iinc 2 1, 3) := by decide +kernel
theorem d_Kn_countEach_135 : decode prog_5_method_8_code 135 = .ok (.goto (-86), 3) := by decide +kernel
theorem d_Kn_countEach_138 : decode prog_5_method_8_code 138 = .ok (.return_, 1) := by decide +kernel
def b_Kn_countEach_138 (c0 c1 : ra_Sp) (I : Nat → ra_K) (Z : ra_R) : ra_K := w_vr Z
def b_Kn_countEach_132 (c0 c1 : ra_Sp) (I : Nat → ra_K) (Z : ra_R) : ra_K := w_inc 2 1 <| (I 49)
def b_Kn_countEach_126 (c0 c1 : ra_Sp) (I : Nat → ra_K) (Z : ra_R) : ra_K := w_inc 5 1 <| (I 74)
def b_Kn_countEach_96 (c0 c1 : ra_Sp) (I : Nat → ra_K) (Z : ra_R) : ra_K := w_al 0 <| w_gr 8 7 <| w_il 3 <| w_rld 2 <| w_il 5 <| w_dup2 <| w_ald <| w_al 0 <| w_gr 8 5 <| w_il 2 <| w_ald <| w_al 0 <| w_gr 8 6 <| w_il 2 <| w_c 1 <| w_il 5 <| w_i2 (fun x y => x <<< (y &&& 31)) <| w_i2 (fun x y => x ||| y) <| w_ald <| w_i2 (fun x y => x * y) <| w_i2 (fun x y => x + y) <| w_ast <| (b_Kn_countEach_126 c0 c1 I Z)
def b_Kn_countEach_86 (c0 c1 : ra_Sp) (I : Nat → ra_K) (Z : ra_R) : ra_K := w_il 4 <| w_il 5 <| w_cs c1 2 <| w_b1 (fun x => x = 0) (b_Kn_countEach_126 c0 c1 I Z) (b_Kn_countEach_96 c0 c1 I Z)
def b_Kn_countEach_74 (c0 c1 : ra_Sp) (I : Nat → ra_K) (Z : ra_R) : ra_K := w_il 5 <| w_al 0 <| w_gr 8 0 <| w_gi 1 8 <| w_b2 (fun x y => y ≤ x) (b_Kn_countEach_132 c0 c1 I Z) (b_Kn_countEach_86 c0 c1 I Z)
def b_Kn_countEach_54 (c0 c1 : ra_Sp) (I : Nat → ra_K) (Z : ra_R) : ra_K := w_il 2 <| w_cs c0 1 <| w_is 3 <| w_al 0 <| w_gr 8 4 <| w_il 3 <| w_ald <| w_il 2 <| w_c (-1) <| w_i2 (fun x y => x ^^^ y) <| w_i2 (fun x y => x &&& y) <| w_is 4 <| w_c 0 <| w_is 5 <| (I 74)
def b_Kn_countEach_49 (c0 c1 : ra_Sp) (I : Nat → ra_K) (Z : ra_R) : ra_K := w_il 2 <| w_il 1 <| w_b2 (fun x y => y ≤ x) (b_Kn_countEach_138 c0 c1 I Z) (b_Kn_countEach_54 c0 c1 I Z)
def b_Kn_countEach_47 (c0 c1 : ra_Sp) (I : Nat → ra_K) (Z : ra_R) : ra_K := w_c 0 <| w_is 2 <| (I 49)
def b_Kn_countEach_41 (c0 c1 : ra_Sp) (I : Nat → ra_K) (Z : ra_R) : ra_K := w_inc 2 1 <| (I 2)
def b_Kn_countEach_26 (c0 c1 : ra_Sp) (I : Nat → ra_K) (Z : ra_R) : ra_K := w_al 0 <| w_gr 8 7 <| w_il 2 <| w_rld 2 <| w_il 3 <| w_c 0 <| w_ast <| w_inc 3 1 <| (I 15)
def b_Kn_countEach_15 (c0 c1 : ra_Sp) (I : Nat → ra_K) (Z : ra_R) : ra_K := w_il 3 <| w_al 0 <| w_gr 8 0 <| w_gi 1 8 <| w_b2 (fun x y => y ≤ x) (b_Kn_countEach_41 c0 c1 I Z) (b_Kn_countEach_26 c0 c1 I Z)
def b_Kn_countEach_13 (c0 c1 : ra_Sp) (I : Nat → ra_K) (Z : ra_R) : ra_K := w_c 0 <| w_is 3 <| (I 15)
def b_Kn_countEach_2 (c0 c1 : ra_Sp) (I : Nat → ra_K) (Z : ra_R) : ra_K := w_il 2 <| w_al 0 <| w_gr 8 0 <| w_gi 1 8 <| w_b2 (fun x y => y ≤ x) (b_Kn_countEach_47 c0 c1 I Z) (b_Kn_countEach_13 c0 c1 I Z)
def b_Kn_countEach_0 (c0 c1 : ra_Sp) (I : Nat → ra_K) (Z : ra_R) : ra_K := w_c 0 <| w_is 2 <| (I 2)
theorem o_Kn_countEach_138 {X : ra_X} {p : Program} {l : Launch} {e : Env} {s : State} {m : MethodId} {args : Array Value} {below : List Frame} {meth : Method} {c : Code} {Z : ra_R} {c0 c1 : ra_Sp}  (h0 : ra_MOK l X mi_J_bitCount c0) (h1 : ra_MOK l X mi_R_has c1) (F : ra_Fx X p rm_Kn_countEach s m args c prog_5_method_8_code 6 cn_Kn) (hr : meth.sig.returnType = none) (hlk : meth.locks = false) {I : Nat → ra_K} (hI : ∀ t ∈ [2, 15, 49, 74], ra_At X p l e rm_Kn_countEach s m args below meth c 6 (MQ below (ra_Qc X Z) args s 0 0 (ra_A X)) (I t) t) : ra_At X p l e rm_Kn_countEach s m args below meth c 6 (MQ below (ra_Qc X Z) args s 0 0 (ra_A X)) (b_Kn_countEach_138 c0 c1 I Z) 138 :=
  r_return F hr hlk d_Kn_countEach_138
theorem o_Kn_countEach_132 {X : ra_X} {p : Program} {l : Launch} {e : Env} {s : State} {m : MethodId} {args : Array Value} {below : List Frame} {meth : Method} {c : Code} {Z : ra_R} {c0 c1 : ra_Sp}  (h0 : ra_MOK l X mi_J_bitCount c0) (h1 : ra_MOK l X mi_R_has c1) (F : ra_Fx X p rm_Kn_countEach s m args c prog_5_method_8_code 6 cn_Kn) (hr : meth.sig.returnType = none) (hlk : meth.locks = false) {I : Nat → ra_K} (hI : ∀ t ∈ [2, 15, 49, 74], ra_At X p l e rm_Kn_countEach s m args below meth c 6 (MQ below (ra_Qc X Z) args s 0 0 (ra_A X)) (I t) t) : ra_At X p l e rm_Kn_countEach s m args below meth c 6 (MQ below (ra_Qc X Z) args s 0 0 (ra_A X)) (b_Kn_countEach_132 c0 c1 I Z) 132 :=
  r_iinc F d_Kn_countEach_132 (by decide) (by decide) <| r_goto F d_Kn_countEach_135 (by decide) (hI 49 (by decide))
theorem o_Kn_countEach_126 {X : ra_X} {p : Program} {l : Launch} {e : Env} {s : State} {m : MethodId} {args : Array Value} {below : List Frame} {meth : Method} {c : Code} {Z : ra_R} {c0 c1 : ra_Sp}  (h0 : ra_MOK l X mi_J_bitCount c0) (h1 : ra_MOK l X mi_R_has c1) (F : ra_Fx X p rm_Kn_countEach s m args c prog_5_method_8_code 6 cn_Kn) (hr : meth.sig.returnType = none) (hlk : meth.locks = false) {I : Nat → ra_K} (hI : ∀ t ∈ [2, 15, 49, 74], ra_At X p l e rm_Kn_countEach s m args below meth c 6 (MQ below (ra_Qc X Z) args s 0 0 (ra_A X)) (I t) t) : ra_At X p l e rm_Kn_countEach s m args below meth c 6 (MQ below (ra_Qc X Z) args s 0 0 (ra_A X)) (b_Kn_countEach_126 c0 c1 I Z) 126 :=
  r_iinc F d_Kn_countEach_126 (by decide) (by decide) <| r_goto F d_Kn_countEach_129 (by decide) (hI 74 (by decide))
theorem o_Kn_countEach_96 {X : ra_X} {p : Program} {l : Launch} {e : Env} {s : State} {m : MethodId} {args : Array Value} {below : List Frame} {meth : Method} {c : Code} {Z : ra_R} {c0 c1 : ra_Sp}  (h0 : ra_MOK l X mi_J_bitCount c0) (h1 : ra_MOK l X mi_R_has c1) (F : ra_Fx X p rm_Kn_countEach s m args c prog_5_method_8_code 6 cn_Kn) (hr : meth.sig.returnType = none) (hlk : meth.locks = false) {I : Nat → ra_K} (hI : ∀ t ∈ [2, 15, 49, 74], ra_At X p l e rm_Kn_countEach s m args below meth c 6 (MQ below (ra_Qc X Z) args s 0 0 (ra_A X)) (I t) t) : ra_At X p l e rm_Kn_countEach s m args below meth c 6 (MQ below (ra_Qc X Z) args s 0 0 (ra_A X)) (b_Kn_countEach_96 c0 c1 I Z) 96 :=
  r_aload_n F d_Kn_countEach_96 rfl <| r_getR F cg_Kn (j := 7) (by decide) rfl fl_Kn_32 d_Kn_countEach_97 <| r_iload_n F d_Kn_countEach_100 rfl <| r_aaloadI F d_Kn_countEach_101 <| r_iload F d_Kn_countEach_102 <| r_dup2 F d_Kn_countEach_104 <| r_iaload F d_Kn_countEach_105 <| r_aload_n F d_Kn_countEach_106 rfl <| r_getR F cg_Kn (j := 5) (by decide) rfl fl_Kn_24 d_Kn_countEach_107 <| r_iload_n F d_Kn_countEach_110 rfl <| r_iaload F d_Kn_countEach_111 <| r_aload_n F d_Kn_countEach_112 rfl <| r_getR F cg_Kn (j := 6) (by decide) rfl fl_Kn_27 d_Kn_countEach_113 <| r_iload_n F d_Kn_countEach_116 rfl <| r_iconst F d_Kn_countEach_117 (by decide) <| r_iload F d_Kn_countEach_118 <| r_ishl F d_Kn_countEach_120 <| r_ior F d_Kn_countEach_121 <| r_iaload F d_Kn_countEach_122 <| r_imul F d_Kn_countEach_123 <| r_iadd F d_Kn_countEach_124 <| r_iastore F d_Kn_countEach_125 <| (o_Kn_countEach_126 h0 h1 F hr hlk hI)
theorem o_Kn_countEach_86 {X : ra_X} {p : Program} {l : Launch} {e : Env} {s : State} {m : MethodId} {args : Array Value} {below : List Frame} {meth : Method} {c : Code} {Z : ra_R} {c0 c1 : ra_Sp}  (h0 : ra_MOK l X mi_J_bitCount c0) (h1 : ra_MOK l X mi_R_has c1) (F : ra_Fx X p rm_Kn_countEach s m args c prog_5_method_8_code 6 cn_Kn) (hr : meth.sig.returnType = none) (hlk : meth.locks = false) {I : Nat → ra_K} (hI : ∀ t ∈ [2, 15, 49, 74], ra_At X p l e rm_Kn_countEach s m args below meth c 6 (MQ below (ra_Qc X Z) args s 0 0 (ra_A X)) (I t) t) : ra_At X p l e rm_Kn_countEach s m args below meth c 6 (MQ below (ra_Qc X Z) args s 0 0 (ra_A X)) (b_Kn_countEach_86 c0 c1 I Z) 86 :=
  r_iload F d_Kn_countEach_86 <| r_iload F d_Kn_countEach_88 <| r_callSN F h1 (co_R_has (by decide +kernel) (by decide +kernel)) ⟨rfl, by decide +kernel⟩ (host := "RoofAcross") (by decide +kernel) st_R_has d_Kn_countEach_90 <| r_if_eq F d_Kn_countEach_93 (by decide) (o_Kn_countEach_126 h0 h1 F hr hlk hI) (o_Kn_countEach_96 h0 h1 F hr hlk hI)
theorem o_Kn_countEach_74 {X : ra_X} {p : Program} {l : Launch} {e : Env} {s : State} {m : MethodId} {args : Array Value} {below : List Frame} {meth : Method} {c : Code} {Z : ra_R} {c0 c1 : ra_Sp}  (h0 : ra_MOK l X mi_J_bitCount c0) (h1 : ra_MOK l X mi_R_has c1) (F : ra_Fx X p rm_Kn_countEach s m args c prog_5_method_8_code 6 cn_Kn) (hr : meth.sig.returnType = none) (hlk : meth.locks = false) {I : Nat → ra_K} (hI : ∀ t ∈ [2, 15, 49, 74], ra_At X p l e rm_Kn_countEach s m args below meth c 6 (MQ below (ra_Qc X Z) args s 0 0 (ra_A X)) (I t) t) : ra_At X p l e rm_Kn_countEach s m args below meth c 6 (MQ below (ra_Qc X Z) args s 0 0 (ra_A X)) (b_Kn_countEach_74 c0 c1 I Z) 74 :=
  r_iload F d_Kn_countEach_74 <| r_aload_n F d_Kn_countEach_76 rfl <| r_getR F cg_Kn (j := 0) (by decide) rfl fl_Kn_39 d_Kn_countEach_77 <| r_getI F cg_V (j := 8) (by decide) rfl fl_Kn_52 d_Kn_countEach_80 <| r_icmp_ge F d_Kn_countEach_83 (by decide) (o_Kn_countEach_132 h0 h1 F hr hlk hI) (o_Kn_countEach_86 h0 h1 F hr hlk hI)
theorem o_Kn_countEach_54 {X : ra_X} {p : Program} {l : Launch} {e : Env} {s : State} {m : MethodId} {args : Array Value} {below : List Frame} {meth : Method} {c : Code} {Z : ra_R} {c0 c1 : ra_Sp}  (h0 : ra_MOK l X mi_J_bitCount c0) (h1 : ra_MOK l X mi_R_has c1) (F : ra_Fx X p rm_Kn_countEach s m args c prog_5_method_8_code 6 cn_Kn) (hr : meth.sig.returnType = none) (hlk : meth.locks = false) {I : Nat → ra_K} (hI : ∀ t ∈ [2, 15, 49, 74], ra_At X p l e rm_Kn_countEach s m args below meth c 6 (MQ below (ra_Qc X Z) args s 0 0 (ra_A X)) (I t) t) : ra_At X p l e rm_Kn_countEach s m args below meth c 6 (MQ below (ra_Qc X Z) args s 0 0 (ra_A X)) (b_Kn_countEach_54 c0 c1 I Z) 54 :=
  r_iload_n F d_Kn_countEach_54 rfl <| r_callS F h0 (co_J_bitCount (by decide +kernel) (by decide +kernel)) ⟨rfl, by decide +kernel⟩ ml_Kn_70 st_J_bitCount d_Kn_countEach_55 <| r_istore_n F d_Kn_countEach_58 rfl (by decide) <| r_aload_n F d_Kn_countEach_59 rfl <| r_getR F cg_Kn (j := 4) (by decide) rfl fl_Kn_21 d_Kn_countEach_60 <| r_iload_n F d_Kn_countEach_63 rfl <| r_iaload F d_Kn_countEach_64 <| r_iload_n F d_Kn_countEach_65 rfl <| r_iconst F d_Kn_countEach_66 (by decide) <| r_ixor F d_Kn_countEach_67 <| r_iand F d_Kn_countEach_68 <| r_istore F d_Kn_countEach_69 (by decide) <| r_iconst F d_Kn_countEach_71 (by decide) <| r_istore F d_Kn_countEach_72 (by decide) <| (hI 74 (by decide))
theorem o_Kn_countEach_49 {X : ra_X} {p : Program} {l : Launch} {e : Env} {s : State} {m : MethodId} {args : Array Value} {below : List Frame} {meth : Method} {c : Code} {Z : ra_R} {c0 c1 : ra_Sp}  (h0 : ra_MOK l X mi_J_bitCount c0) (h1 : ra_MOK l X mi_R_has c1) (F : ra_Fx X p rm_Kn_countEach s m args c prog_5_method_8_code 6 cn_Kn) (hr : meth.sig.returnType = none) (hlk : meth.locks = false) {I : Nat → ra_K} (hI : ∀ t ∈ [2, 15, 49, 74], ra_At X p l e rm_Kn_countEach s m args below meth c 6 (MQ below (ra_Qc X Z) args s 0 0 (ra_A X)) (I t) t) : ra_At X p l e rm_Kn_countEach s m args below meth c 6 (MQ below (ra_Qc X Z) args s 0 0 (ra_A X)) (b_Kn_countEach_49 c0 c1 I Z) 49 :=
  r_iload_n F d_Kn_countEach_49 rfl <| r_iload_n F d_Kn_countEach_50 rfl <| r_icmp_ge F d_Kn_countEach_51 (by decide) (o_Kn_countEach_138 h0 h1 F hr hlk hI) (o_Kn_countEach_54 h0 h1 F hr hlk hI)
theorem o_Kn_countEach_47 {X : ra_X} {p : Program} {l : Launch} {e : Env} {s : State} {m : MethodId} {args : Array Value} {below : List Frame} {meth : Method} {c : Code} {Z : ra_R} {c0 c1 : ra_Sp}  (h0 : ra_MOK l X mi_J_bitCount c0) (h1 : ra_MOK l X mi_R_has c1) (F : ra_Fx X p rm_Kn_countEach s m args c prog_5_method_8_code 6 cn_Kn) (hr : meth.sig.returnType = none) (hlk : meth.locks = false) {I : Nat → ra_K} (hI : ∀ t ∈ [2, 15, 49, 74], ra_At X p l e rm_Kn_countEach s m args below meth c 6 (MQ below (ra_Qc X Z) args s 0 0 (ra_A X)) (I t) t) : ra_At X p l e rm_Kn_countEach s m args below meth c 6 (MQ below (ra_Qc X Z) args s 0 0 (ra_A X)) (b_Kn_countEach_47 c0 c1 I Z) 47 :=
  r_iconst F d_Kn_countEach_47 (by decide) <| r_istore_n F d_Kn_countEach_48 rfl (by decide) <| (hI 49 (by decide))
theorem o_Kn_countEach_41 {X : ra_X} {p : Program} {l : Launch} {e : Env} {s : State} {m : MethodId} {args : Array Value} {below : List Frame} {meth : Method} {c : Code} {Z : ra_R} {c0 c1 : ra_Sp}  (h0 : ra_MOK l X mi_J_bitCount c0) (h1 : ra_MOK l X mi_R_has c1) (F : ra_Fx X p rm_Kn_countEach s m args c prog_5_method_8_code 6 cn_Kn) (hr : meth.sig.returnType = none) (hlk : meth.locks = false) {I : Nat → ra_K} (hI : ∀ t ∈ [2, 15, 49, 74], ra_At X p l e rm_Kn_countEach s m args below meth c 6 (MQ below (ra_Qc X Z) args s 0 0 (ra_A X)) (I t) t) : ra_At X p l e rm_Kn_countEach s m args below meth c 6 (MQ below (ra_Qc X Z) args s 0 0 (ra_A X)) (b_Kn_countEach_41 c0 c1 I Z) 41 :=
  r_iinc F d_Kn_countEach_41 (by decide) (by decide) <| r_goto F d_Kn_countEach_44 (by decide) (hI 2 (by decide))
theorem o_Kn_countEach_26 {X : ra_X} {p : Program} {l : Launch} {e : Env} {s : State} {m : MethodId} {args : Array Value} {below : List Frame} {meth : Method} {c : Code} {Z : ra_R} {c0 c1 : ra_Sp}  (h0 : ra_MOK l X mi_J_bitCount c0) (h1 : ra_MOK l X mi_R_has c1) (F : ra_Fx X p rm_Kn_countEach s m args c prog_5_method_8_code 6 cn_Kn) (hr : meth.sig.returnType = none) (hlk : meth.locks = false) {I : Nat → ra_K} (hI : ∀ t ∈ [2, 15, 49, 74], ra_At X p l e rm_Kn_countEach s m args below meth c 6 (MQ below (ra_Qc X Z) args s 0 0 (ra_A X)) (I t) t) : ra_At X p l e rm_Kn_countEach s m args below meth c 6 (MQ below (ra_Qc X Z) args s 0 0 (ra_A X)) (b_Kn_countEach_26 c0 c1 I Z) 26 :=
  r_aload_n F d_Kn_countEach_26 rfl <| r_getR F cg_Kn (j := 7) (by decide) rfl fl_Kn_32 d_Kn_countEach_27 <| r_iload_n F d_Kn_countEach_30 rfl <| r_aaloadI F d_Kn_countEach_31 <| r_iload_n F d_Kn_countEach_32 rfl <| r_iconst F d_Kn_countEach_33 (by decide) <| r_iastore F d_Kn_countEach_34 <| r_iinc F d_Kn_countEach_35 (by decide) (by decide) <| r_goto F d_Kn_countEach_38 (by decide) (hI 15 (by decide))
theorem o_Kn_countEach_15 {X : ra_X} {p : Program} {l : Launch} {e : Env} {s : State} {m : MethodId} {args : Array Value} {below : List Frame} {meth : Method} {c : Code} {Z : ra_R} {c0 c1 : ra_Sp}  (h0 : ra_MOK l X mi_J_bitCount c0) (h1 : ra_MOK l X mi_R_has c1) (F : ra_Fx X p rm_Kn_countEach s m args c prog_5_method_8_code 6 cn_Kn) (hr : meth.sig.returnType = none) (hlk : meth.locks = false) {I : Nat → ra_K} (hI : ∀ t ∈ [2, 15, 49, 74], ra_At X p l e rm_Kn_countEach s m args below meth c 6 (MQ below (ra_Qc X Z) args s 0 0 (ra_A X)) (I t) t) : ra_At X p l e rm_Kn_countEach s m args below meth c 6 (MQ below (ra_Qc X Z) args s 0 0 (ra_A X)) (b_Kn_countEach_15 c0 c1 I Z) 15 :=
  r_iload_n F d_Kn_countEach_15 rfl <| r_aload_n F d_Kn_countEach_16 rfl <| r_getR F cg_Kn (j := 0) (by decide) rfl fl_Kn_39 d_Kn_countEach_17 <| r_getI F cg_V (j := 8) (by decide) rfl fl_Kn_52 d_Kn_countEach_20 <| r_icmp_ge F d_Kn_countEach_23 (by decide) (o_Kn_countEach_41 h0 h1 F hr hlk hI) (o_Kn_countEach_26 h0 h1 F hr hlk hI)
theorem o_Kn_countEach_13 {X : ra_X} {p : Program} {l : Launch} {e : Env} {s : State} {m : MethodId} {args : Array Value} {below : List Frame} {meth : Method} {c : Code} {Z : ra_R} {c0 c1 : ra_Sp}  (h0 : ra_MOK l X mi_J_bitCount c0) (h1 : ra_MOK l X mi_R_has c1) (F : ra_Fx X p rm_Kn_countEach s m args c prog_5_method_8_code 6 cn_Kn) (hr : meth.sig.returnType = none) (hlk : meth.locks = false) {I : Nat → ra_K} (hI : ∀ t ∈ [2, 15, 49, 74], ra_At X p l e rm_Kn_countEach s m args below meth c 6 (MQ below (ra_Qc X Z) args s 0 0 (ra_A X)) (I t) t) : ra_At X p l e rm_Kn_countEach s m args below meth c 6 (MQ below (ra_Qc X Z) args s 0 0 (ra_A X)) (b_Kn_countEach_13 c0 c1 I Z) 13 :=
  r_iconst F d_Kn_countEach_13 (by decide) <| r_istore_n F d_Kn_countEach_14 rfl (by decide) <| (hI 15 (by decide))
theorem o_Kn_countEach_2 {X : ra_X} {p : Program} {l : Launch} {e : Env} {s : State} {m : MethodId} {args : Array Value} {below : List Frame} {meth : Method} {c : Code} {Z : ra_R} {c0 c1 : ra_Sp}  (h0 : ra_MOK l X mi_J_bitCount c0) (h1 : ra_MOK l X mi_R_has c1) (F : ra_Fx X p rm_Kn_countEach s m args c prog_5_method_8_code 6 cn_Kn) (hr : meth.sig.returnType = none) (hlk : meth.locks = false) {I : Nat → ra_K} (hI : ∀ t ∈ [2, 15, 49, 74], ra_At X p l e rm_Kn_countEach s m args below meth c 6 (MQ below (ra_Qc X Z) args s 0 0 (ra_A X)) (I t) t) : ra_At X p l e rm_Kn_countEach s m args below meth c 6 (MQ below (ra_Qc X Z) args s 0 0 (ra_A X)) (b_Kn_countEach_2 c0 c1 I Z) 2 :=
  r_iload_n F d_Kn_countEach_2 rfl <| r_aload_n F d_Kn_countEach_3 rfl <| r_getR F cg_Kn (j := 0) (by decide) rfl fl_Kn_39 d_Kn_countEach_4 <| r_getI F cg_V (j := 8) (by decide) rfl fl_Kn_52 d_Kn_countEach_7 <| r_icmp_ge F d_Kn_countEach_10 (by decide) (o_Kn_countEach_47 h0 h1 F hr hlk hI) (o_Kn_countEach_13 h0 h1 F hr hlk hI)
theorem o_Kn_countEach_0 {X : ra_X} {p : Program} {l : Launch} {e : Env} {s : State} {m : MethodId} {args : Array Value} {below : List Frame} {meth : Method} {c : Code} {Z : ra_R} {c0 c1 : ra_Sp}  (h0 : ra_MOK l X mi_J_bitCount c0) (h1 : ra_MOK l X mi_R_has c1) (F : ra_Fx X p rm_Kn_countEach s m args c prog_5_method_8_code 6 cn_Kn) (hr : meth.sig.returnType = none) (hlk : meth.locks = false) {I : Nat → ra_K} (hI : ∀ t ∈ [2, 15, 49, 74], ra_At X p l e rm_Kn_countEach s m args below meth c 6 (MQ below (ra_Qc X Z) args s 0 0 (ra_A X)) (I t) t) : ra_At X p l e rm_Kn_countEach s m args below meth c 6 (MQ below (ra_Qc X Z) args s 0 0 (ra_A X)) (b_Kn_countEach_0 c0 c1 I Z) 0 :=
  r_iconst F d_Kn_countEach_0 (by decide) <| r_istore_n F d_Kn_countEach_1 rfl (by decide) <| (hI 2 (by decide))
theorem g_Kn_countEach {l : Launch} {X : ra_X} {c0 c1 : ra_Sp}  (h0 : ra_MOK l X mi_J_bitCount c0) (h1 : ra_MOK l X mi_R_has c1) (sp : ra_Sp) (I : ra_R → List Value → ra_St → Nat → ra_M → ra_K) (ve : ∀ as σ Z, ra_c1 as = true → as.length = 2 → sp as σ Z → b_Kn_countEach_0 c0 c1 (ra_I (I Z as σ)) Z (ra_pad 6 as) [] σ) (v2 : ∀ as σ Z, sp as σ Z → ∀ μ L S σ1, I Z as σ 2 μ L S σ1 → b_Kn_countEach_2 c0 c1 (ra_J (I Z as σ) μ) Z L S σ1) (v15 : ∀ as σ Z, sp as σ Z → ∀ μ L S σ1, I Z as σ 15 μ L S σ1 → b_Kn_countEach_15 c0 c1 (ra_J (I Z as σ) μ) Z L S σ1) (v49 : ∀ as σ Z, sp as σ Z → ∀ μ L S σ1, I Z as σ 49 μ L S σ1 → b_Kn_countEach_49 c0 c1 (ra_J (I Z as σ) μ) Z L S σ1) (v74 : ∀ as σ Z, sp as σ Z → ∀ μ L S σ1, I Z as σ 74 μ L S σ1 → b_Kn_countEach_74 c0 c1 (ra_J (I Z as σ) μ) Z L S σ1) : ra_MOK l X mi_Kn_countEach sp := by
  refine ra_enter (k := fun Z as σ => b_Kn_countEach_0 c0 c1 (ra_I (I Z as σ)) Z) cn_Kn rfl (by decide +kernel) ⟨by decide +kernel, by decide +kernel⟩ (by decide +kernel) ?_ ve
  intro p e s m args below meth c Z as σ hsp F hr hlk
  refine o_Kn_countEach_0 h0 h1 F hr hlk (ra_cuts (b := fun t J => if t = 2 then b_Kn_countEach_2 c0 c1 J Z else if t = 15 then b_Kn_countEach_15 c0 c1 J Z else if t = 49 then b_Kn_countEach_49 c0 c1 J Z else if t = 74 then b_Kn_countEach_74 c0 c1 J Z else fun _ _ _ => False) ?_ ?_)
  · intro t ht J hJ
    simp only [List.mem_cons, List.not_mem_nil, or_false] at ht
    rcases ht with rfl | rfl | rfl | rfl
    · exact o_Kn_countEach_2 h0 h1 F hr hlk hJ
    · exact o_Kn_countEach_15 h0 h1 F hr hlk hJ
    · exact o_Kn_countEach_49 h0 h1 F hr hlk hJ
    · exact o_Kn_countEach_74 h0 h1 F hr hlk hJ
  · intro t ht μ L S σ1 hI
    simp only [List.mem_cons, List.not_mem_nil, or_false] at ht
    rcases ht with rfl | rfl | rfl | rfl
    · exact v2 as σ Z hsp μ L S σ1 hI
    · exact v15 as σ Z hsp μ L S σ1 hI
    · exact v49 as σ Z hsp μ L S σ1 hI
    · exact v74 as σ Z hsp μ L S σ1 hI

theorem d_Kn_bringUp_0 : decode prog_5_method_4_code 0 = .ok (.aload_n 0, 1) := by decide +kernel
theorem d_Kn_bringUp_1 : decode prog_5_method_4_code 1 = .ok (.getfield 39, 3) := by decide +kernel
theorem d_Kn_bringUp_4 : decode prog_5_method_4_code 4 = .ok (.getfield 49, 3) := by decide +kernel
theorem d_Kn_bringUp_7 : decode prog_5_method_4_code 7 = .ok (.aload_n 0, 1) := by decide +kernel
theorem d_Kn_bringUp_8 : decode prog_5_method_4_code 8 = .ok (.getfield 46, 3) := by decide +kernel
theorem d_Kn_bringUp_11 : decode prog_5_method_4_code 11 = .ok (.iadd, 1) := by decide +kernel
theorem d_Kn_bringUp_12 : decode prog_5_method_4_code 12 = .ok (.istore_n 1, 1) := by decide +kernel
theorem d_Kn_bringUp_13 : decode prog_5_method_4_code 13 = .ok (.aload_n 0, 1) := by decide +kernel
theorem d_Kn_bringUp_14 : decode prog_5_method_4_code 14 = .ok (.getfield 35, 3) := by decide +kernel
theorem d_Kn_bringUp_17 : decode prog_5_method_4_code 17 = .ok (.iload_n 1, 1) := by decide +kernel
theorem d_Kn_bringUp_18 : decode prog_5_method_4_code 18 = .ok (.if_icmp .ne 4, 3) := by decide +kernel
theorem d_Kn_bringUp_21 : decode prog_5_method_4_code 21 = .ok (.return_, 1) := by decide +kernel
theorem d_Kn_bringUp_22 : decode prog_5_method_4_code 22 = .ok (.aload_n 0, 1) := by decide +kernel
theorem d_Kn_bringUp_23 : decode prog_5_method_4_code 23 = .ok (.iload_n 1, 1) := by decide +kernel
theorem d_Kn_bringUp_24 : decode prog_5_method_4_code 24 = .ok (.putfield 35, 3) := by decide +kernel
theorem d_Kn_bringUp_27 : decode prog_5_method_4_code 27 = .ok (.iconst 1, 1) := by decide +kernel
theorem d_Kn_bringUp_28 : decode prog_5_method_4_code 28 = .ok (.aload_n 0, 1) := by decide +kernel
theorem d_Kn_bringUp_29 : decode prog_5_method_4_code 29 = .ok (.getfield 39, 3) := by decide +kernel
theorem d_Kn_bringUp_32 : decode prog_5_method_4_code 32 = .ok (.getfield 52, 3) := by decide +kernel
theorem d_Kn_bringUp_35 : decode prog_5_method_4_code 35 = .ok (.ishl, 1) := by decide +kernel
theorem d_Kn_bringUp_36 : decode prog_5_method_4_code 36 = .ok (.iconst 1, 1) := by decide +kernel
theorem d_Kn_bringUp_37 : decode prog_5_method_4_code 37 = .ok (.isub, 1) := by decide +kernel
theorem d_Kn_bringUp_38 : decode prog_5_method_4_code 38 = .ok (.istore_n 2, 1) := by decide +kernel
theorem d_Kn_bringUp_39 : decode prog_5_method_4_code 39 = .ok (.aload_n 0, 1) := by decide +kernel
theorem d_Kn_bringUp_40 : decode prog_5_method_4_code 40 = .ok (.iload_n 2, 1) := by decide +kernel
theorem d_Kn_bringUp_41 : decode prog_5_method_4_code 41 = .ok (.invokevirtual 53, 3) := by decide +kernel
theorem d_Kn_bringUp_44 : decode prog_5_method_4_code 44 = .ok (.istore_n 3, 1) := by decide +kernel
theorem d_Kn_bringUp_45 : decode prog_5_method_4_code 45 = .ok (.aload_n 0, 1) := by decide +kernel
theorem d_Kn_bringUp_46 : decode prog_5_method_4_code 46 = .ok (.iload_n 2, 1) := by decide +kernel
theorem d_Kn_bringUp_47 : decode prog_5_method_4_code 47 = .ok (.invokevirtual 57, 3) := by decide +kernel
theorem d_Kn_bringUp_50 : decode prog_5_method_4_code 50 = .ok (.aload_n 0, 1) := by decide +kernel
theorem d_Kn_bringUp_51 : decode prog_5_method_4_code 51 = .ok (.iload_n 2, 1) := by decide +kernel
theorem d_Kn_bringUp_52 : decode prog_5_method_4_code 52 = .ok (.invokevirtual 61, 3) := by decide +kernel
theorem d_Kn_bringUp_55 : decode prog_5_method_4_code 55 = .ok (.aload_n 0, 1) := by decide +kernel
theorem d_Kn_bringUp_56 : decode prog_5_method_4_code 56 = .ok (.iload_n 2, 1) := by decide +kernel
theorem d_Kn_bringUp_57 : decode prog_5_method_4_code 57 = .ok (.invokevirtual 64, 3) := by decide +kernel
theorem d_Kn_bringUp_60 : decode prog_5_method_4_code 60 = .ok (.aload_n 0, 1) := by decide +kernel
theorem d_Kn_bringUp_61 : decode prog_5_method_4_code 61 = .ok (.iload_n 3, 1) := by decide +kernel
theorem d_Kn_bringUp_62 : decode prog_5_method_4_code 62 = .ok (.ifCond .eq 12, 3) := by decide +kernel
theorem d_Kn_bringUp_65 : decode prog_5_method_4_code 65 = .ok (.aload_n 0, 1) := by decide +kernel
theorem d_Kn_bringUp_66 : decode prog_5_method_4_code 66 = .ok (.getfield 27, 3) := by decide +kernel
theorem d_Kn_bringUp_69 : decode prog_5_method_4_code 69 = .ok (.iconst 0, 1) := by decide +kernel
theorem d_Kn_bringUp_70 : decode prog_5_method_4_code 70 = .ok (.iaload, 1) := by decide +kernel
theorem d_Kn_bringUp_71 : decode prog_5_method_4_code 71 = .ok (.goto 4, 3) := by decide +kernel
theorem d_Kn_bringUp_74 : decode prog_5_method_4_code 74 = .ok (.iconst 0, 1) := by decide +kernel
theorem d_Kn_bringUp_75 : decode prog_5_method_4_code 75 = .ok (.putfield 67, 3) := by decide +kernel
theorem d_Kn_bringUp_78 : decode prog_5_method_4_code 78 = .ok (.return_, 1) := by decide +kernel
def b_Kn_bringUp_75 (c0 c1 c2 c3 : ra_Sp) (Z : ra_R) : ra_K := w_pi 8 9 <| w_vr Z
def b_Kn_bringUp_74 (c0 c1 c2 c3 : ra_Sp) (Z : ra_R) : ra_K := w_c 0 <| (b_Kn_bringUp_75 c0 c1 c2 c3 Z)
def b_Kn_bringUp_65 (c0 c1 c2 c3 : ra_Sp) (Z : ra_R) : ra_K := w_al 0 <| w_gr 8 6 <| w_c 0 <| w_ald <| (b_Kn_bringUp_75 c0 c1 c2 c3 Z)
def b_Kn_bringUp_22 (c0 c1 c2 c3 : ra_Sp) (Z : ra_R) : ra_K := w_al 0 <| w_il 1 <| w_pi 8 11 <| w_c 1 <| w_al 0 <| w_gr 8 0 <| w_gi 1 8 <| w_i2 (fun x y => x <<< (y &&& 31)) <| w_c 1 <| w_i2 (fun x y => x - y) <| w_is 2 <| w_al 0 <| w_il 2 <| w_cv c0 2 8 <| w_is 3 <| w_al 0 <| w_il 2 <| w_cv c1 2 8 <| w_al 0 <| w_il 2 <| w_cv c2 2 8 <| w_al 0 <| w_il 2 <| w_cv c3 2 8 <| w_al 0 <| w_il 3 <| w_b1 (fun x => x = 0) (b_Kn_bringUp_74 c0 c1 c2 c3 Z) (b_Kn_bringUp_65 c0 c1 c2 c3 Z)
def b_Kn_bringUp_21 (c0 c1 c2 c3 : ra_Sp) (Z : ra_R) : ra_K := w_vr Z
def b_Kn_bringUp_0 (c0 c1 c2 c3 : ra_Sp) (Z : ra_R) : ra_K := w_al 0 <| w_gr 8 0 <| w_gi 1 11 <| w_al 0 <| w_gi 8 10 <| w_i2 (fun x y => x + y) <| w_is 1 <| w_al 0 <| w_gi 8 11 <| w_il 1 <| w_b2 (fun x y => x = y) (b_Kn_bringUp_21 c0 c1 c2 c3 Z) (b_Kn_bringUp_22 c0 c1 c2 c3 Z)
theorem o_Kn_bringUp_75 {X : ra_X} {p : Program} {l : Launch} {e : Env} {s : State} {m : MethodId} {args : Array Value} {below : List Frame} {meth : Method} {c : Code} {Z : ra_R} {c0 c1 c2 c3 : ra_Sp}  (h0 : ra_MOK l X mi_Kn_readFacts c0) (h1 : ra_MOK l X mi_Kn_countBehind c1) (h2 : ra_MOK l X mi_Kn_countAhead c2) (h3 : ra_MOK l X mi_Kn_countEach c3) (F : ra_Fx X p rm_Kn_bringUp s m args c prog_5_method_4_code 4 cn_Kn) (hr : meth.sig.returnType = none) (hlk : meth.locks = false) : ra_At X p l e rm_Kn_bringUp s m args below meth c 4 (MQ below (ra_Qc X Z) args s 0 0 (ra_A X)) (b_Kn_bringUp_75 c0 c1 c2 c3 Z) 75 :=
  r_putI F cg_Kn (j := 9) (by decide) rfl rfl rfl fl_Kn_67 d_Kn_bringUp_75 <| r_return F hr hlk d_Kn_bringUp_78
theorem o_Kn_bringUp_74 {X : ra_X} {p : Program} {l : Launch} {e : Env} {s : State} {m : MethodId} {args : Array Value} {below : List Frame} {meth : Method} {c : Code} {Z : ra_R} {c0 c1 c2 c3 : ra_Sp}  (h0 : ra_MOK l X mi_Kn_readFacts c0) (h1 : ra_MOK l X mi_Kn_countBehind c1) (h2 : ra_MOK l X mi_Kn_countAhead c2) (h3 : ra_MOK l X mi_Kn_countEach c3) (F : ra_Fx X p rm_Kn_bringUp s m args c prog_5_method_4_code 4 cn_Kn) (hr : meth.sig.returnType = none) (hlk : meth.locks = false) : ra_At X p l e rm_Kn_bringUp s m args below meth c 4 (MQ below (ra_Qc X Z) args s 0 0 (ra_A X)) (b_Kn_bringUp_74 c0 c1 c2 c3 Z) 74 :=
  r_iconst F d_Kn_bringUp_74 (by decide) <| (o_Kn_bringUp_75 h0 h1 h2 h3 F hr hlk)
theorem o_Kn_bringUp_65 {X : ra_X} {p : Program} {l : Launch} {e : Env} {s : State} {m : MethodId} {args : Array Value} {below : List Frame} {meth : Method} {c : Code} {Z : ra_R} {c0 c1 c2 c3 : ra_Sp}  (h0 : ra_MOK l X mi_Kn_readFacts c0) (h1 : ra_MOK l X mi_Kn_countBehind c1) (h2 : ra_MOK l X mi_Kn_countAhead c2) (h3 : ra_MOK l X mi_Kn_countEach c3) (F : ra_Fx X p rm_Kn_bringUp s m args c prog_5_method_4_code 4 cn_Kn) (hr : meth.sig.returnType = none) (hlk : meth.locks = false) : ra_At X p l e rm_Kn_bringUp s m args below meth c 4 (MQ below (ra_Qc X Z) args s 0 0 (ra_A X)) (b_Kn_bringUp_65 c0 c1 c2 c3 Z) 65 :=
  r_aload_n F d_Kn_bringUp_65 rfl <| r_getR F cg_Kn (j := 6) (by decide) rfl fl_Kn_27 d_Kn_bringUp_66 <| r_iconst F d_Kn_bringUp_69 (by decide) <| r_iaload F d_Kn_bringUp_70 <| r_goto F d_Kn_bringUp_71 (by decide) (o_Kn_bringUp_75 h0 h1 h2 h3 F hr hlk)
theorem o_Kn_bringUp_22 {X : ra_X} {p : Program} {l : Launch} {e : Env} {s : State} {m : MethodId} {args : Array Value} {below : List Frame} {meth : Method} {c : Code} {Z : ra_R} {c0 c1 c2 c3 : ra_Sp}  (h0 : ra_MOK l X mi_Kn_readFacts c0) (h1 : ra_MOK l X mi_Kn_countBehind c1) (h2 : ra_MOK l X mi_Kn_countAhead c2) (h3 : ra_MOK l X mi_Kn_countEach c3) (F : ra_Fx X p rm_Kn_bringUp s m args c prog_5_method_4_code 4 cn_Kn) (hr : meth.sig.returnType = none) (hlk : meth.locks = false) : ra_At X p l e rm_Kn_bringUp s m args below meth c 4 (MQ below (ra_Qc X Z) args s 0 0 (ra_A X)) (b_Kn_bringUp_22 c0 c1 c2 c3 Z) 22 :=
  r_aload_n F d_Kn_bringUp_22 rfl <| r_iload_n F d_Kn_bringUp_23 rfl <| r_putI F cg_Kn (j := 11) (by decide) rfl rfl rfl fl_Kn_35 d_Kn_bringUp_24 <| r_iconst F d_Kn_bringUp_27 (by decide) <| r_aload_n F d_Kn_bringUp_28 rfl <| r_getR F cg_Kn (j := 0) (by decide) rfl fl_Kn_39 d_Kn_bringUp_29 <| r_getI F cg_V (j := 8) (by decide) rfl fl_Kn_52 d_Kn_bringUp_32 <| r_ishl F d_Kn_bringUp_35 <| r_iconst F d_Kn_bringUp_36 (by decide) <| r_isub F d_Kn_bringUp_37 <| r_istore_n F d_Kn_bringUp_38 rfl (by decide) <| r_aload_n F d_Kn_bringUp_39 rfl <| r_iload_n F d_Kn_bringUp_40 rfl <| r_callV F h0 (co_Kn_readFacts (by decide +kernel) (by decide +kernel)) ⟨rfl, by decide +kernel⟩ ⟨rfl, by decide⟩ ml_Kn_53 im_Kn_readFacts se_Kn_readFacts d_Kn_bringUp_41 <| r_istore_n F d_Kn_bringUp_44 rfl (by decide) <| r_aload_n F d_Kn_bringUp_45 rfl <| r_iload_n F d_Kn_bringUp_46 rfl <| r_callV F h1 (co_Kn_countBehind (by decide +kernel) (by decide +kernel)) ⟨rfl, by decide +kernel⟩ ⟨rfl, by decide⟩ ml_Kn_57 im_Kn_countBehind se_Kn_countBehind d_Kn_bringUp_47 <| r_aload_n F d_Kn_bringUp_50 rfl <| r_iload_n F d_Kn_bringUp_51 rfl <| r_callV F h2 (co_Kn_countAhead (by decide +kernel) (by decide +kernel)) ⟨rfl, by decide +kernel⟩ ⟨rfl, by decide⟩ ml_Kn_61 im_Kn_countAhead se_Kn_countAhead d_Kn_bringUp_52 <| r_aload_n F d_Kn_bringUp_55 rfl <| r_iload_n F d_Kn_bringUp_56 rfl <| r_callV F h3 (co_Kn_countEach (by decide +kernel) (by decide +kernel)) ⟨rfl, by decide +kernel⟩ ⟨rfl, by decide⟩ ml_Kn_64 im_Kn_countEach se_Kn_countEach d_Kn_bringUp_57 <| r_aload_n F d_Kn_bringUp_60 rfl <| r_iload_n F d_Kn_bringUp_61 rfl <| r_if_eq F d_Kn_bringUp_62 (by decide) (o_Kn_bringUp_74 h0 h1 h2 h3 F hr hlk) (o_Kn_bringUp_65 h0 h1 h2 h3 F hr hlk)
theorem o_Kn_bringUp_21 {X : ra_X} {p : Program} {l : Launch} {e : Env} {s : State} {m : MethodId} {args : Array Value} {below : List Frame} {meth : Method} {c : Code} {Z : ra_R} {c0 c1 c2 c3 : ra_Sp}  (h0 : ra_MOK l X mi_Kn_readFacts c0) (h1 : ra_MOK l X mi_Kn_countBehind c1) (h2 : ra_MOK l X mi_Kn_countAhead c2) (h3 : ra_MOK l X mi_Kn_countEach c3) (F : ra_Fx X p rm_Kn_bringUp s m args c prog_5_method_4_code 4 cn_Kn) (hr : meth.sig.returnType = none) (hlk : meth.locks = false) : ra_At X p l e rm_Kn_bringUp s m args below meth c 4 (MQ below (ra_Qc X Z) args s 0 0 (ra_A X)) (b_Kn_bringUp_21 c0 c1 c2 c3 Z) 21 :=
  r_return F hr hlk d_Kn_bringUp_21
theorem o_Kn_bringUp_0 {X : ra_X} {p : Program} {l : Launch} {e : Env} {s : State} {m : MethodId} {args : Array Value} {below : List Frame} {meth : Method} {c : Code} {Z : ra_R} {c0 c1 c2 c3 : ra_Sp}  (h0 : ra_MOK l X mi_Kn_readFacts c0) (h1 : ra_MOK l X mi_Kn_countBehind c1) (h2 : ra_MOK l X mi_Kn_countAhead c2) (h3 : ra_MOK l X mi_Kn_countEach c3) (F : ra_Fx X p rm_Kn_bringUp s m args c prog_5_method_4_code 4 cn_Kn) (hr : meth.sig.returnType = none) (hlk : meth.locks = false) : ra_At X p l e rm_Kn_bringUp s m args below meth c 4 (MQ below (ra_Qc X Z) args s 0 0 (ra_A X)) (b_Kn_bringUp_0 c0 c1 c2 c3 Z) 0 :=
  r_aload_n F d_Kn_bringUp_0 rfl <| r_getR F cg_Kn (j := 0) (by decide) rfl fl_Kn_39 d_Kn_bringUp_1 <| r_getI F cg_V (j := 11) (by decide) rfl fl_Kn_49 d_Kn_bringUp_4 <| r_aload_n F d_Kn_bringUp_7 rfl <| r_getI F cg_Kn (j := 10) (by decide) rfl fl_Kn_46 d_Kn_bringUp_8 <| r_iadd F d_Kn_bringUp_11 <| r_istore_n F d_Kn_bringUp_12 rfl (by decide) <| r_aload_n F d_Kn_bringUp_13 rfl <| r_getI F cg_Kn (j := 11) (by decide) rfl fl_Kn_35 d_Kn_bringUp_14 <| r_iload_n F d_Kn_bringUp_17 rfl <| r_icmp_ne F d_Kn_bringUp_18 (by decide) (o_Kn_bringUp_22 h0 h1 h2 h3 F hr hlk) (o_Kn_bringUp_21 h0 h1 h2 h3 F hr hlk)
theorem g_Kn_bringUp {l : Launch} {X : ra_X} {c0 c1 c2 c3 : ra_Sp}  (h0 : ra_MOK l X mi_Kn_readFacts c0) (h1 : ra_MOK l X mi_Kn_countBehind c1) (h2 : ra_MOK l X mi_Kn_countAhead c2) (h3 : ra_MOK l X mi_Kn_countEach c3) (sp : ra_Sp) (ve : ∀ as σ Z, ra_c1 as = true → as.length = 1 → sp as σ Z → b_Kn_bringUp_0 c0 c1 c2 c3 Z (ra_pad 4 as) [] σ) : ra_MOK l X mi_Kn_bringUp sp := by
  refine ra_enter (k := fun Z as σ => b_Kn_bringUp_0 c0 c1 c2 c3 Z) cn_Kn rfl (by decide +kernel) ⟨by decide +kernel, by decide +kernel⟩ (by decide +kernel) ?_ ve
  intro p e s m args below meth c Z as σ hsp F hr hlk
  exact o_Kn_bringUp_0 h0 h1 h2 h3 F hr hlk

theorem d_Kn_possibleRoofs_0 : decode prog_5_method_9_code 0 = .ok (.iconst 0, 1) := by decide +kernel
theorem d_Kn_possibleRoofs_1 : decode prog_5_method_9_code 1 = .ok (.istore_n 2, 1) := by decide +kernel
theorem d_Kn_possibleRoofs_2 : decode prog_5_method_9_code 2 = .ok (.iconst 0, 1) := by decide +kernel
theorem d_Kn_possibleRoofs_3 : decode prog_5_method_9_code 3 = .ok (.istore_n 3, 1) := by decide +kernel
theorem d_Kn_possibleRoofs_4 : decode prog_5_method_9_code 4 = .ok (.iload_n 3, 1) := by decide +kernel
theorem d_Kn_possibleRoofs_5 : decode prog_5_method_9_code 5 = .ok (.aload_n 0, 1) := by decide +kernel
theorem d_Kn_possibleRoofs_6 : decode prog_5_method_9_code 6 = .ok (.getfield 39, 3) := by decide +kernel
theorem d_Kn_possibleRoofs_9 : decode prog_5_method_9_code 9 = .ok (.getfield 52, 3) := by decide +kernel
theorem d_Kn_possibleRoofs_12 : decode prog_5_method_9_code 12 = .ok (.if_icmp .ge 26, 3) := by decide +kernel
theorem d_Kn_possibleRoofs_15 : decode prog_5_method_9_code 15 = .ok (.aload_n 0, 1) := by decide +kernel
theorem d_Kn_possibleRoofs_16 : decode prog_5_method_9_code 16 = .ok (.getfield 32, 3) := by decide +kernel
theorem d_Kn_possibleRoofs_19 : decode prog_5_method_9_code 19 = .ok (.iload_n 1, 1) := by decide +kernel
theorem d_Kn_possibleRoofs_20 : decode prog_5_method_9_code 20 = .ok (.aaload, 1) := by decide +kernel
theorem d_Kn_possibleRoofs_21 : decode prog_5_method_9_code 21 = .ok (.iload_n 3, 1) := by decide +kernel
theorem d_Kn_possibleRoofs_22 : decode prog_5_method_9_code 22 = .ok (.iaload, 1) := by decide +kernel
theorem d_Kn_possibleRoofs_23 : decode prog_5_method_9_code 23 = .ok (.ifCond .le 9, 3) := by decide +kernel
theorem d_Kn_possibleRoofs_26 : decode prog_5_method_9_code 26 = .ok (.iload_n 2, 1) := by decide +kernel
theorem d_Kn_possibleRoofs_27 : decode prog_5_method_9_code 27 = .ok (.iconst 1, 1) := by decide +kernel
theorem d_Kn_possibleRoofs_28 : decode prog_5_method_9_code 28 = .ok (.iload_n 3, 1) := by decide +kernel
theorem d_Kn_possibleRoofs_29 : decode prog_5_method_9_code 29 = .ok (.ishl, 1) := by decide +kernel
theorem d_Kn_possibleRoofs_30 : decode prog_5_method_9_code 30 = .ok (.ior, 1) := by decide +kernel
theorem d_Kn_possibleRoofs_31 : decode prog_5_method_9_code 31 = .ok (.istore_n 2, 1) := by decide +kernel
theorem d_Kn_possibleRoofs_32 : decode prog_5_method_9_code 32 = .ok (.iinc 3 1, 3) := by decide +kernel
theorem d_Kn_possibleRoofs_35 : decode prog_5_method_9_code 35 = .ok (.goto (-31), 3) := by decide +kernel
theorem d_Kn_possibleRoofs_38 : decode prog_5_method_9_code 38 = .ok (.iload_n 2, 1) := by decide +kernel
theorem d_Kn_possibleRoofs_39 : decode prog_5_method_9_code 39 = .ok (.ireturn, 1) := by decide +kernel
def b_Kn_possibleRoofs_38 (I : Nat → ra_K) (Z : ra_R) : ra_K := w_il 2 <| w_ir Z
def b_Kn_possibleRoofs_32 (I : Nat → ra_K) (Z : ra_R) : ra_K := w_inc 3 1 <| (I 4)
def b_Kn_possibleRoofs_26 (I : Nat → ra_K) (Z : ra_R) : ra_K := w_il 2 <| w_c 1 <| w_il 3 <| w_i2 (fun x y => x <<< (y &&& 31)) <| w_i2 (fun x y => x ||| y) <| w_is 2 <| (b_Kn_possibleRoofs_32 I Z)
def b_Kn_possibleRoofs_15 (I : Nat → ra_K) (Z : ra_R) : ra_K := w_al 0 <| w_gr 8 7 <| w_il 1 <| w_rld 2 <| w_il 3 <| w_ald <| w_b1 (fun x => x ≤ 0) (b_Kn_possibleRoofs_32 I Z) (b_Kn_possibleRoofs_26 I Z)
def b_Kn_possibleRoofs_4 (I : Nat → ra_K) (Z : ra_R) : ra_K := w_il 3 <| w_al 0 <| w_gr 8 0 <| w_gi 1 8 <| w_b2 (fun x y => y ≤ x) (b_Kn_possibleRoofs_38 I Z) (b_Kn_possibleRoofs_15 I Z)
def b_Kn_possibleRoofs_0 (I : Nat → ra_K) (Z : ra_R) : ra_K := w_c 0 <| w_is 2 <| w_c 0 <| w_is 3 <| (I 4)
theorem o_Kn_possibleRoofs_38 {X : ra_X} {p : Program} {l : Launch} {e : Env} {s : State} {m : MethodId} {args : Array Value} {below : List Frame} {meth : Method} {c : Code} {Z : ra_R}  (F : ra_Fx X p rm_Kn_possibleRoofs s m args c prog_5_method_9_code 4 cn_Kn) (hr : meth.sig.returnType = (some .int)) (hlk : meth.locks = false) {I : Nat → ra_K} (hI : ∀ t ∈ [4], ra_At X p l e rm_Kn_possibleRoofs s m args below meth c 4 (MQ below (ra_Qc X Z) args s 0 0 (ra_A X)) (I t) t) : ra_At X p l e rm_Kn_possibleRoofs s m args below meth c 4 (MQ below (ra_Qc X Z) args s 0 0 (ra_A X)) (b_Kn_possibleRoofs_38 I Z) 38 :=
  r_iload_n F d_Kn_possibleRoofs_38 rfl <| r_ireturn F hr hlk d_Kn_possibleRoofs_39
theorem o_Kn_possibleRoofs_32 {X : ra_X} {p : Program} {l : Launch} {e : Env} {s : State} {m : MethodId} {args : Array Value} {below : List Frame} {meth : Method} {c : Code} {Z : ra_R}  (F : ra_Fx X p rm_Kn_possibleRoofs s m args c prog_5_method_9_code 4 cn_Kn) (hr : meth.sig.returnType = (some .int)) (hlk : meth.locks = false) {I : Nat → ra_K} (hI : ∀ t ∈ [4], ra_At X p l e rm_Kn_possibleRoofs s m args below meth c 4 (MQ below (ra_Qc X Z) args s 0 0 (ra_A X)) (I t) t) : ra_At X p l e rm_Kn_possibleRoofs s m args below meth c 4 (MQ below (ra_Qc X Z) args s 0 0 (ra_A X)) (b_Kn_possibleRoofs_32 I Z) 32 :=
  r_iinc F d_Kn_possibleRoofs_32 (by decide) (by decide) <| r_goto F d_Kn_possibleRoofs_35 (by decide) (hI 4 (by decide))
theorem o_Kn_possibleRoofs_26 {X : ra_X} {p : Program} {l : Launch} {e : Env} {s : State} {m : MethodId} {args : Array Value} {below : List Frame} {meth : Method} {c : Code} {Z : ra_R}  (F : ra_Fx X p rm_Kn_possibleRoofs s m args c prog_5_method_9_code 4 cn_Kn) (hr : meth.sig.returnType = (some .int)) (hlk : meth.locks = false) {I : Nat → ra_K} (hI : ∀ t ∈ [4], ra_At X p l e rm_Kn_possibleRoofs s m args below meth c 4 (MQ below (ra_Qc X Z) args s 0 0 (ra_A X)) (I t) t) : ra_At X p l e rm_Kn_possibleRoofs s m args below meth c 4 (MQ below (ra_Qc X Z) args s 0 0 (ra_A X)) (b_Kn_possibleRoofs_26 I Z) 26 :=
  r_iload_n F d_Kn_possibleRoofs_26 rfl <| r_iconst F d_Kn_possibleRoofs_27 (by decide) <| r_iload_n F d_Kn_possibleRoofs_28 rfl <| r_ishl F d_Kn_possibleRoofs_29 <| r_ior F d_Kn_possibleRoofs_30 <| r_istore_n F d_Kn_possibleRoofs_31 rfl (by decide) <| (o_Kn_possibleRoofs_32 F hr hlk hI)
theorem o_Kn_possibleRoofs_15 {X : ra_X} {p : Program} {l : Launch} {e : Env} {s : State} {m : MethodId} {args : Array Value} {below : List Frame} {meth : Method} {c : Code} {Z : ra_R}  (F : ra_Fx X p rm_Kn_possibleRoofs s m args c prog_5_method_9_code 4 cn_Kn) (hr : meth.sig.returnType = (some .int)) (hlk : meth.locks = false) {I : Nat → ra_K} (hI : ∀ t ∈ [4], ra_At X p l e rm_Kn_possibleRoofs s m args below meth c 4 (MQ below (ra_Qc X Z) args s 0 0 (ra_A X)) (I t) t) : ra_At X p l e rm_Kn_possibleRoofs s m args below meth c 4 (MQ below (ra_Qc X Z) args s 0 0 (ra_A X)) (b_Kn_possibleRoofs_15 I Z) 15 :=
  r_aload_n F d_Kn_possibleRoofs_15 rfl <| r_getR F cg_Kn (j := 7) (by decide) rfl fl_Kn_32 d_Kn_possibleRoofs_16 <| r_iload_n F d_Kn_possibleRoofs_19 rfl <| r_aaloadI F d_Kn_possibleRoofs_20 <| r_iload_n F d_Kn_possibleRoofs_21 rfl <| r_iaload F d_Kn_possibleRoofs_22 <| r_if_le F d_Kn_possibleRoofs_23 (by decide) (o_Kn_possibleRoofs_32 F hr hlk hI) (o_Kn_possibleRoofs_26 F hr hlk hI)
theorem o_Kn_possibleRoofs_4 {X : ra_X} {p : Program} {l : Launch} {e : Env} {s : State} {m : MethodId} {args : Array Value} {below : List Frame} {meth : Method} {c : Code} {Z : ra_R}  (F : ra_Fx X p rm_Kn_possibleRoofs s m args c prog_5_method_9_code 4 cn_Kn) (hr : meth.sig.returnType = (some .int)) (hlk : meth.locks = false) {I : Nat → ra_K} (hI : ∀ t ∈ [4], ra_At X p l e rm_Kn_possibleRoofs s m args below meth c 4 (MQ below (ra_Qc X Z) args s 0 0 (ra_A X)) (I t) t) : ra_At X p l e rm_Kn_possibleRoofs s m args below meth c 4 (MQ below (ra_Qc X Z) args s 0 0 (ra_A X)) (b_Kn_possibleRoofs_4 I Z) 4 :=
  r_iload_n F d_Kn_possibleRoofs_4 rfl <| r_aload_n F d_Kn_possibleRoofs_5 rfl <| r_getR F cg_Kn (j := 0) (by decide) rfl fl_Kn_39 d_Kn_possibleRoofs_6 <| r_getI F cg_V (j := 8) (by decide) rfl fl_Kn_52 d_Kn_possibleRoofs_9 <| r_icmp_ge F d_Kn_possibleRoofs_12 (by decide) (o_Kn_possibleRoofs_38 F hr hlk hI) (o_Kn_possibleRoofs_15 F hr hlk hI)
theorem o_Kn_possibleRoofs_0 {X : ra_X} {p : Program} {l : Launch} {e : Env} {s : State} {m : MethodId} {args : Array Value} {below : List Frame} {meth : Method} {c : Code} {Z : ra_R}  (F : ra_Fx X p rm_Kn_possibleRoofs s m args c prog_5_method_9_code 4 cn_Kn) (hr : meth.sig.returnType = (some .int)) (hlk : meth.locks = false) {I : Nat → ra_K} (hI : ∀ t ∈ [4], ra_At X p l e rm_Kn_possibleRoofs s m args below meth c 4 (MQ below (ra_Qc X Z) args s 0 0 (ra_A X)) (I t) t) : ra_At X p l e rm_Kn_possibleRoofs s m args below meth c 4 (MQ below (ra_Qc X Z) args s 0 0 (ra_A X)) (b_Kn_possibleRoofs_0 I Z) 0 :=
  r_iconst F d_Kn_possibleRoofs_0 (by decide) <| r_istore_n F d_Kn_possibleRoofs_1 rfl (by decide) <| r_iconst F d_Kn_possibleRoofs_2 (by decide) <| r_istore_n F d_Kn_possibleRoofs_3 rfl (by decide) <| (hI 4 (by decide))
theorem g_Kn_possibleRoofs {l : Launch} {X : ra_X}  (sp : ra_Sp) (I : ra_R → List Value → ra_St → Nat → ra_M → ra_K) (ve : ∀ as σ Z, ra_c1 as = true → as.length = 2 → sp as σ Z → b_Kn_possibleRoofs_0 (ra_I (I Z as σ)) Z (ra_pad 4 as) [] σ) (v4 : ∀ as σ Z, sp as σ Z → ∀ μ L S σ1, I Z as σ 4 μ L S σ1 → b_Kn_possibleRoofs_4 (ra_J (I Z as σ) μ) Z L S σ1) : ra_MOK l X mi_Kn_possibleRoofs sp := by
  refine ra_enter (k := fun Z as σ => b_Kn_possibleRoofs_0 (ra_I (I Z as σ)) Z) cn_Kn rfl (by decide +kernel) ⟨by decide +kernel, by decide +kernel⟩ (by decide +kernel) ?_ ve
  intro p e s m args below meth c Z as σ hsp F hr hlk
  refine o_Kn_possibleRoofs_0 F hr hlk (ra_cuts (b := fun t J => if t = 4 then b_Kn_possibleRoofs_4 J Z else fun _ _ _ => False) ?_ ?_)
  · intro t ht J hJ
    simp only [List.mem_cons, List.not_mem_nil, or_false] at ht
    rcases ht with rfl
    · exact o_Kn_possibleRoofs_4 F hr hlk hJ
  · intro t ht μ L S σ1 hI
    simp only [List.mem_cons, List.not_mem_nil, or_false] at ht
    rcases ht with rfl
    · exact v4 as σ Z hsp μ L S σ1 hI

theorem d_R_could_0 : decode prog_1_method_23_code 0 = .ok (.iload_n 1, 1) := by decide +kernel
theorem d_R_could_1 : decode prog_1_method_23_code 1 = .ok (.iconst (-1), 1) := by decide +kernel
theorem d_R_could_2 : decode prog_1_method_23_code 2 = .ok (.if_icmp .eq 14, 3) := by decide +kernel
theorem d_R_could_5 : decode prog_1_method_23_code 5 = .ok (.aload_n 0, 1) := by decide +kernel
theorem d_R_could_6 : decode prog_1_method_23_code 6 = .ok (.iload_n 1, 1) := by decide +kernel
theorem d_R_could_7 : decode prog_1_method_23_code 7 = .ok (.invokevirtual 96, 3) := by decide +kernel
theorem d_R_could_10 : decode prog_1_method_23_code 10 = .ok (.ifCond .eq 6, 3) := by decide +kernel
theorem d_R_could_13 : decode prog_1_method_23_code 13 = .ok (.bipush (-2), 2) := by decide +kernel
theorem d_R_could_15 : decode prog_1_method_23_code 15 = .ok (.ireturn, 1) := by decide +kernel
theorem d_R_could_16 : decode prog_1_method_23_code 16 = .ok (.aload_n 0, 1) := by decide +kernel
theorem d_R_could_17 : decode prog_1_method_23_code 17 = .ok (.getfield 51, 3) := by decide +kernel
theorem d_R_could_20 : decode prog_1_method_23_code 20 = .ok (.invokevirtual 215, 3) := by decide +kernel
theorem d_R_could_23 : decode prog_1_method_23_code 23 = .ok (.iload_n 1, 1) := by decide +kernel
theorem d_R_could_24 : decode prog_1_method_23_code 24 = .ok (.iconst (-1), 1) := by decide +kernel
theorem d_R_could_25 : decode prog_1_method_23_code 25 = .ok (.if_icmp .ne 13, 3) := by decide +kernel
theorem d_R_could_28 : decode prog_1_method_23_code 28 = .ok (.aload_n 0, 1) := by decide +kernel
theorem d_R_could_29 : decode prog_1_method_23_code 29 = .ok (.getfield 51, 3) := by decide +kernel
theorem d_R_could_32 : decode prog_1_method_23_code 32 = .ok (.getfield 218, 3) := by decide +kernel
theorem d_R_could_35 : decode prog_1_method_23_code 35 = .ok (.goto 11, 3) := by decide +kernel
theorem d_R_could_38 : decode prog_1_method_23_code 38 = .ok (.aload_n 0, 1) := by decide +kernel
theorem d_R_could_39 : decode prog_1_method_23_code 39 = .ok (.getfield 51, 3) := by decide +kernel
theorem d_R_could_42 : decode prog_1_method_23_code 42 = .ok (.iload_n 1, 1) := by decide +kernel
theorem d_R_could_43 : decode prog_1_method_23_code 43 = .ok (.invokevirtual 221, 3) := by decide +kernel
theorem d_R_could_46 : decode prog_1_method_23_code 46 = .ok (.ireturn, 1) := by decide +kernel
def b_R_could_46 (c0 c1 c2 : ra_Sp) (Z : ra_R) : ra_K := w_ir Z
def b_R_could_38 (c0 c1 c2 : ra_Sp) (Z : ra_R) : ra_K := w_al 0 <| w_gr 0 5 <| w_il 1 <| w_cv c2 2 8 <| (b_R_could_46 c0 c1 c2 Z)
def b_R_could_28 (c0 c1 c2 : ra_Sp) (Z : ra_R) : ra_K := w_al 0 <| w_gr 0 5 <| w_gi 8 9 <| (b_R_could_46 c0 c1 c2 Z)
def b_R_could_16 (c0 c1 c2 : ra_Sp) (Z : ra_R) : ra_K := w_al 0 <| w_gr 0 5 <| w_cv c1 1 8 <| w_il 1 <| w_c (-1) <| w_b2 (fun x y => x = y) (b_R_could_28 c0 c1 c2 Z) (b_R_could_38 c0 c1 c2 Z)
def b_R_could_13 (c0 c1 c2 : ra_Sp) (Z : ra_R) : ra_K := w_c (-2) <| w_ir Z
def b_R_could_5 (c0 c1 c2 : ra_Sp) (Z : ra_R) : ra_K := w_al 0 <| w_il 1 <| w_cv c0 2 0 <| w_b1 (fun x => x = 0) (b_R_could_16 c0 c1 c2 Z) (b_R_could_13 c0 c1 c2 Z)
def b_R_could_0 (c0 c1 c2 : ra_Sp) (Z : ra_R) : ra_K := w_il 1 <| w_c (-1) <| w_b2 (fun x y => x = y) (b_R_could_16 c0 c1 c2 Z) (b_R_could_5 c0 c1 c2 Z)
theorem o_R_could_46 {X : ra_X} {p : Program} {l : Launch} {e : Env} {s : State} {m : MethodId} {args : Array Value} {below : List Frame} {meth : Method} {c : Code} {Z : ra_R} {c0 c1 c2 : ra_Sp}  (h0 : ra_MOK l X mi_R_isNoHouse c0) (h1 : ra_MOK l X mi_Kn_bringUp c1) (h2 : ra_MOK l X mi_Kn_possibleRoofs c2) (F : ra_Fx X p rm_R_could s m args c prog_1_method_23_code 2 cn_R) (hr : meth.sig.returnType = (some .int)) (hlk : meth.locks = false) : ra_At X p l e rm_R_could s m args below meth c 2 (MQ below (ra_Qc X Z) args s 0 0 (ra_A X)) (b_R_could_46 c0 c1 c2 Z) 46 :=
  r_ireturn F hr hlk d_R_could_46
theorem o_R_could_38 {X : ra_X} {p : Program} {l : Launch} {e : Env} {s : State} {m : MethodId} {args : Array Value} {below : List Frame} {meth : Method} {c : Code} {Z : ra_R} {c0 c1 c2 : ra_Sp}  (h0 : ra_MOK l X mi_R_isNoHouse c0) (h1 : ra_MOK l X mi_Kn_bringUp c1) (h2 : ra_MOK l X mi_Kn_possibleRoofs c2) (F : ra_Fx X p rm_R_could s m args c prog_1_method_23_code 2 cn_R) (hr : meth.sig.returnType = (some .int)) (hlk : meth.locks = false) : ra_At X p l e rm_R_could s m args below meth c 2 (MQ below (ra_Qc X Z) args s 0 0 (ra_A X)) (b_R_could_38 c0 c1 c2 Z) 38 :=
  r_aload_n F d_R_could_38 rfl <| r_getR F cg_R (j := 5) (by decide) rfl fl_R_51 d_R_could_39 <| r_iload_n F d_R_could_42 rfl <| r_callV F h2 (co_Kn_possibleRoofs (by decide +kernel) (by decide +kernel)) ⟨rfl, by decide +kernel⟩ ⟨rfl, by decide⟩ ml_R_221 im_Kn_possibleRoofs se_Kn_possibleRoofs d_R_could_43 <| (o_R_could_46 h0 h1 h2 F hr hlk)
theorem o_R_could_28 {X : ra_X} {p : Program} {l : Launch} {e : Env} {s : State} {m : MethodId} {args : Array Value} {below : List Frame} {meth : Method} {c : Code} {Z : ra_R} {c0 c1 c2 : ra_Sp}  (h0 : ra_MOK l X mi_R_isNoHouse c0) (h1 : ra_MOK l X mi_Kn_bringUp c1) (h2 : ra_MOK l X mi_Kn_possibleRoofs c2) (F : ra_Fx X p rm_R_could s m args c prog_1_method_23_code 2 cn_R) (hr : meth.sig.returnType = (some .int)) (hlk : meth.locks = false) : ra_At X p l e rm_R_could s m args below meth c 2 (MQ below (ra_Qc X Z) args s 0 0 (ra_A X)) (b_R_could_28 c0 c1 c2 Z) 28 :=
  r_aload_n F d_R_could_28 rfl <| r_getR F cg_R (j := 5) (by decide) rfl fl_R_51 d_R_could_29 <| r_getI F cg_Kn (j := 9) (by decide) rfl fl_R_218 d_R_could_32 <| r_goto F d_R_could_35 (by decide) (o_R_could_46 h0 h1 h2 F hr hlk)
theorem o_R_could_16 {X : ra_X} {p : Program} {l : Launch} {e : Env} {s : State} {m : MethodId} {args : Array Value} {below : List Frame} {meth : Method} {c : Code} {Z : ra_R} {c0 c1 c2 : ra_Sp}  (h0 : ra_MOK l X mi_R_isNoHouse c0) (h1 : ra_MOK l X mi_Kn_bringUp c1) (h2 : ra_MOK l X mi_Kn_possibleRoofs c2) (F : ra_Fx X p rm_R_could s m args c prog_1_method_23_code 2 cn_R) (hr : meth.sig.returnType = (some .int)) (hlk : meth.locks = false) : ra_At X p l e rm_R_could s m args below meth c 2 (MQ below (ra_Qc X Z) args s 0 0 (ra_A X)) (b_R_could_16 c0 c1 c2 Z) 16 :=
  r_aload_n F d_R_could_16 rfl <| r_getR F cg_R (j := 5) (by decide) rfl fl_R_51 d_R_could_17 <| r_callV F h1 (co_Kn_bringUp (by decide +kernel) (by decide +kernel)) ⟨rfl, by decide +kernel⟩ ⟨rfl, by decide⟩ ml_R_215 im_Kn_bringUp se_Kn_bringUp d_R_could_20 <| r_iload_n F d_R_could_23 rfl <| r_iconst F d_R_could_24 (by decide) <| r_icmp_ne F d_R_could_25 (by decide) (o_R_could_38 h0 h1 h2 F hr hlk) (o_R_could_28 h0 h1 h2 F hr hlk)
theorem o_R_could_13 {X : ra_X} {p : Program} {l : Launch} {e : Env} {s : State} {m : MethodId} {args : Array Value} {below : List Frame} {meth : Method} {c : Code} {Z : ra_R} {c0 c1 c2 : ra_Sp}  (h0 : ra_MOK l X mi_R_isNoHouse c0) (h1 : ra_MOK l X mi_Kn_bringUp c1) (h2 : ra_MOK l X mi_Kn_possibleRoofs c2) (F : ra_Fx X p rm_R_could s m args c prog_1_method_23_code 2 cn_R) (hr : meth.sig.returnType = (some .int)) (hlk : meth.locks = false) : ra_At X p l e rm_R_could s m args below meth c 2 (MQ below (ra_Qc X Z) args s 0 0 (ra_A X)) (b_R_could_13 c0 c1 c2 Z) 13 :=
  r_bipush F d_R_could_13 (by decide) <| r_ireturn F hr hlk d_R_could_15
theorem o_R_could_5 {X : ra_X} {p : Program} {l : Launch} {e : Env} {s : State} {m : MethodId} {args : Array Value} {below : List Frame} {meth : Method} {c : Code} {Z : ra_R} {c0 c1 c2 : ra_Sp}  (h0 : ra_MOK l X mi_R_isNoHouse c0) (h1 : ra_MOK l X mi_Kn_bringUp c1) (h2 : ra_MOK l X mi_Kn_possibleRoofs c2) (F : ra_Fx X p rm_R_could s m args c prog_1_method_23_code 2 cn_R) (hr : meth.sig.returnType = (some .int)) (hlk : meth.locks = false) : ra_At X p l e rm_R_could s m args below meth c 2 (MQ below (ra_Qc X Z) args s 0 0 (ra_A X)) (b_R_could_5 c0 c1 c2 Z) 5 :=
  r_aload_n F d_R_could_5 rfl <| r_iload_n F d_R_could_6 rfl <| r_callV F h0 (co_R_isNoHouse (by decide +kernel) (by decide +kernel)) ⟨rfl, by decide +kernel⟩ ⟨rfl, by decide⟩ ml_R_96 im_R_isNoHouse se_R_isNoHouse d_R_could_7 <| r_if_eq F d_R_could_10 (by decide) (o_R_could_16 h0 h1 h2 F hr hlk) (o_R_could_13 h0 h1 h2 F hr hlk)
theorem o_R_could_0 {X : ra_X} {p : Program} {l : Launch} {e : Env} {s : State} {m : MethodId} {args : Array Value} {below : List Frame} {meth : Method} {c : Code} {Z : ra_R} {c0 c1 c2 : ra_Sp}  (h0 : ra_MOK l X mi_R_isNoHouse c0) (h1 : ra_MOK l X mi_Kn_bringUp c1) (h2 : ra_MOK l X mi_Kn_possibleRoofs c2) (F : ra_Fx X p rm_R_could s m args c prog_1_method_23_code 2 cn_R) (hr : meth.sig.returnType = (some .int)) (hlk : meth.locks = false) : ra_At X p l e rm_R_could s m args below meth c 2 (MQ below (ra_Qc X Z) args s 0 0 (ra_A X)) (b_R_could_0 c0 c1 c2 Z) 0 :=
  r_iload_n F d_R_could_0 rfl <| r_iconst F d_R_could_1 (by decide) <| r_icmp_eq F d_R_could_2 (by decide) (o_R_could_16 h0 h1 h2 F hr hlk) (o_R_could_5 h0 h1 h2 F hr hlk)
theorem g_R_could {l : Launch} {X : ra_X} {c0 c1 c2 : ra_Sp}  (h0 : ra_MOK l X mi_R_isNoHouse c0) (h1 : ra_MOK l X mi_Kn_bringUp c1) (h2 : ra_MOK l X mi_Kn_possibleRoofs c2) (sp : ra_Sp) (ve : ∀ as σ Z, ra_c1 as = true → as.length = 2 → sp as σ Z → b_R_could_0 c0 c1 c2 Z (ra_pad 2 as) [] σ) : ra_MOK l X mi_R_could sp := by
  refine ra_enter (k := fun Z as σ => b_R_could_0 c0 c1 c2 Z) cn_R rfl (by decide +kernel) ⟨by decide +kernel, by decide +kernel⟩ (by decide +kernel) ?_ ve
  intro p e s m args below meth c Z as σ hsp F hr hlk
  exact o_R_could_0 h0 h1 h2 F hr hlk

theorem d_Kn_worstLeft_0 : decode prog_5_method_11_code 0 = .ok (.iconst 0, 1) := by decide +kernel
theorem d_Kn_worstLeft_1 : decode prog_5_method_11_code 1 = .ok (.istore_n 2, 1) := by decide +kernel
theorem d_Kn_worstLeft_2 : decode prog_5_method_11_code 2 = .ok (.iconst 0, 1) := by decide +kernel
theorem d_Kn_worstLeft_3 : decode prog_5_method_11_code 3 = .ok (.istore_n 3, 1) := by decide +kernel
theorem d_Kn_worstLeft_4 : decode prog_5_method_11_code 4 = .ok (.iload_n 3, 1) := by decide +kernel
theorem d_Kn_worstLeft_5 : decode prog_5_method_11_code 5 = .ok (.aload_n 0, 1) := by decide +kernel
theorem d_Kn_worstLeft_6 : decode prog_5_method_11_code 6 = .ok (.getfield 39, 3) := by decide +kernel
theorem d_Kn_worstLeft_9 : decode prog_5_method_11_code 9 = .ok (.getfield 52, 3) := by decide +kernel
theorem d_Kn_worstLeft_12 : decode prog_5_method_11_code 12 = .ok (.if_icmp .ge 22, 3) := by decide +kernel
theorem d_Kn_worstLeft_15 : decode prog_5_method_11_code 15 = .ok (.iload_n 2, 1) := by decide +kernel
theorem d_Kn_worstLeft_16 : decode prog_5_method_11_code 16 = .ok (.aload_n 0, 1) := by decide +kernel
theorem d_Kn_worstLeft_17 : decode prog_5_method_11_code 17 = .ok (.getfield 32, 3) := by decide +kernel
theorem d_Kn_worstLeft_20 : decode prog_5_method_11_code 20 = .ok (.iload_n 1, 1) := by decide +kernel
theorem d_Kn_worstLeft_21 : decode prog_5_method_11_code 21 = .ok (.aaload, 1) := by decide +kernel
theorem d_Kn_worstLeft_22 : decode prog_5_method_11_code 22 = .ok (.iload_n 3, 1) := by decide +kernel
theorem d_Kn_worstLeft_23 : decode prog_5_method_11_code 23 = .ok (.iaload, 1) := by decide +kernel
theorem d_Kn_worstLeft_24 : decode prog_5_method_11_code 24 = .ok (.invokestatic 83, 3) := by decide +kernel
theorem d_Kn_worstLeft_27 : decode prog_5_method_11_code 27 = .ok (.istore_n 2, 1) := by decide +kernel
theorem d_Kn_worstLeft_28 : decode prog_5_method_11_code 28 = .ok (.iinc 3 1, 3) := by decide +kernel
theorem d_Kn_worstLeft_31 : decode prog_5_method_11_code 31 = .ok (.goto (-27), 3) := by decide +kernel
theorem d_Kn_worstLeft_34 : decode prog_5_method_11_code 34 = .ok (.iload_n 2, 1) := by decide +kernel
theorem d_Kn_worstLeft_35 : decode prog_5_method_11_code 35 = .ok (.ireturn, 1) := by decide +kernel
def b_Kn_worstLeft_34 (I : Nat → ra_K) (Z : ra_R) : ra_K := w_il 2 <| w_ir Z
def b_Kn_worstLeft_15 (I : Nat → ra_K) (Z : ra_R) : ra_K := w_il 2 <| w_al 0 <| w_gr 8 7 <| w_il 1 <| w_rld 2 <| w_il 3 <| w_ald <| w_max <| w_is 2 <| w_inc 3 1 <| (I 4)
def b_Kn_worstLeft_4 (I : Nat → ra_K) (Z : ra_R) : ra_K := w_il 3 <| w_al 0 <| w_gr 8 0 <| w_gi 1 8 <| w_b2 (fun x y => y ≤ x) (b_Kn_worstLeft_34 I Z) (b_Kn_worstLeft_15 I Z)
def b_Kn_worstLeft_0 (I : Nat → ra_K) (Z : ra_R) : ra_K := w_c 0 <| w_is 2 <| w_c 0 <| w_is 3 <| (I 4)
theorem o_Kn_worstLeft_34 {X : ra_X} {p : Program} {l : Launch} {e : Env} {s : State} {m : MethodId} {args : Array Value} {below : List Frame} {meth : Method} {c : Code} {Z : ra_R}  (F : ra_Fx X p rm_Kn_worstLeft s m args c prog_5_method_11_code 4 cn_Kn) (hr : meth.sig.returnType = (some .int)) (hlk : meth.locks = false) {I : Nat → ra_K} (hI : ∀ t ∈ [4], ra_At X p l e rm_Kn_worstLeft s m args below meth c 4 (MQ below (ra_Qc X Z) args s 0 0 (ra_A X)) (I t) t) : ra_At X p l e rm_Kn_worstLeft s m args below meth c 4 (MQ below (ra_Qc X Z) args s 0 0 (ra_A X)) (b_Kn_worstLeft_34 I Z) 34 :=
  r_iload_n F d_Kn_worstLeft_34 rfl <| r_ireturn F hr hlk d_Kn_worstLeft_35
theorem o_Kn_worstLeft_15 {X : ra_X} {p : Program} {l : Launch} {e : Env} {s : State} {m : MethodId} {args : Array Value} {below : List Frame} {meth : Method} {c : Code} {Z : ra_R}  (F : ra_Fx X p rm_Kn_worstLeft s m args c prog_5_method_11_code 4 cn_Kn) (hr : meth.sig.returnType = (some .int)) (hlk : meth.locks = false) {I : Nat → ra_K} (hI : ∀ t ∈ [4], ra_At X p l e rm_Kn_worstLeft s m args below meth c 4 (MQ below (ra_Qc X Z) args s 0 0 (ra_A X)) (I t) t) : ra_At X p l e rm_Kn_worstLeft s m args below meth c 4 (MQ below (ra_Qc X Z) args s 0 0 (ra_A X)) (b_Kn_worstLeft_15 I Z) 15 :=
  r_iload_n F d_Kn_worstLeft_15 rfl <| r_aload_n F d_Kn_worstLeft_16 rfl <| r_getR F cg_Kn (j := 7) (by decide) rfl fl_Kn_32 d_Kn_worstLeft_17 <| r_iload_n F d_Kn_worstLeft_20 rfl <| r_aaloadI F d_Kn_worstLeft_21 <| r_iload_n F d_Kn_worstLeft_22 rfl <| r_iaload F d_Kn_worstLeft_23 <| r_max F ml_Kn_83 jw_max1 jw_math jw_max3 d_Kn_worstLeft_24 <| r_istore_n F d_Kn_worstLeft_27 rfl (by decide) <| r_iinc F d_Kn_worstLeft_28 (by decide) (by decide) <| r_goto F d_Kn_worstLeft_31 (by decide) (hI 4 (by decide))
theorem o_Kn_worstLeft_4 {X : ra_X} {p : Program} {l : Launch} {e : Env} {s : State} {m : MethodId} {args : Array Value} {below : List Frame} {meth : Method} {c : Code} {Z : ra_R}  (F : ra_Fx X p rm_Kn_worstLeft s m args c prog_5_method_11_code 4 cn_Kn) (hr : meth.sig.returnType = (some .int)) (hlk : meth.locks = false) {I : Nat → ra_K} (hI : ∀ t ∈ [4], ra_At X p l e rm_Kn_worstLeft s m args below meth c 4 (MQ below (ra_Qc X Z) args s 0 0 (ra_A X)) (I t) t) : ra_At X p l e rm_Kn_worstLeft s m args below meth c 4 (MQ below (ra_Qc X Z) args s 0 0 (ra_A X)) (b_Kn_worstLeft_4 I Z) 4 :=
  r_iload_n F d_Kn_worstLeft_4 rfl <| r_aload_n F d_Kn_worstLeft_5 rfl <| r_getR F cg_Kn (j := 0) (by decide) rfl fl_Kn_39 d_Kn_worstLeft_6 <| r_getI F cg_V (j := 8) (by decide) rfl fl_Kn_52 d_Kn_worstLeft_9 <| r_icmp_ge F d_Kn_worstLeft_12 (by decide) (o_Kn_worstLeft_34 F hr hlk hI) (o_Kn_worstLeft_15 F hr hlk hI)
theorem o_Kn_worstLeft_0 {X : ra_X} {p : Program} {l : Launch} {e : Env} {s : State} {m : MethodId} {args : Array Value} {below : List Frame} {meth : Method} {c : Code} {Z : ra_R}  (F : ra_Fx X p rm_Kn_worstLeft s m args c prog_5_method_11_code 4 cn_Kn) (hr : meth.sig.returnType = (some .int)) (hlk : meth.locks = false) {I : Nat → ra_K} (hI : ∀ t ∈ [4], ra_At X p l e rm_Kn_worstLeft s m args below meth c 4 (MQ below (ra_Qc X Z) args s 0 0 (ra_A X)) (I t) t) : ra_At X p l e rm_Kn_worstLeft s m args below meth c 4 (MQ below (ra_Qc X Z) args s 0 0 (ra_A X)) (b_Kn_worstLeft_0 I Z) 0 :=
  r_iconst F d_Kn_worstLeft_0 (by decide) <| r_istore_n F d_Kn_worstLeft_1 rfl (by decide) <| r_iconst F d_Kn_worstLeft_2 (by decide) <| r_istore_n F d_Kn_worstLeft_3 rfl (by decide) <| (hI 4 (by decide))
theorem g_Kn_worstLeft {l : Launch} {X : ra_X}  (sp : ra_Sp) (I : ra_R → List Value → ra_St → Nat → ra_M → ra_K) (ve : ∀ as σ Z, ra_c1 as = true → as.length = 2 → sp as σ Z → b_Kn_worstLeft_0 (ra_I (I Z as σ)) Z (ra_pad 4 as) [] σ) (v4 : ∀ as σ Z, sp as σ Z → ∀ μ L S σ1, I Z as σ 4 μ L S σ1 → b_Kn_worstLeft_4 (ra_J (I Z as σ) μ) Z L S σ1) : ra_MOK l X mi_Kn_worstLeft sp := by
  refine ra_enter (k := fun Z as σ => b_Kn_worstLeft_0 (ra_I (I Z as σ)) Z) cn_Kn rfl (by decide +kernel) ⟨by decide +kernel, by decide +kernel⟩ (by decide +kernel) ?_ ve
  intro p e s m args below meth c Z as σ hsp F hr hlk
  refine o_Kn_worstLeft_0 F hr hlk (ra_cuts (b := fun t J => if t = 4 then b_Kn_worstLeft_4 J Z else fun _ _ _ => False) ?_ ?_)
  · intro t ht J hJ
    simp only [List.mem_cons, List.not_mem_nil, or_false] at ht
    rcases ht with rfl
    · exact o_Kn_worstLeft_4 F hr hlk hJ
  · intro t ht μ L S σ1 hI
    simp only [List.mem_cons, List.not_mem_nil, or_false] at ht
    rcases ht with rfl
    · exact v4 as σ Z hsp μ L S σ1 hI

theorem d_Kn_whomToAsk_0 : decode prog_5_method_10_code 0 = .ok (.iconst 0, 1) := by decide +kernel
theorem d_Kn_whomToAsk_1 : decode prog_5_method_10_code 1 = .ok (.istore_n 1, 1) := by decide +kernel
theorem d_Kn_whomToAsk_2 : decode prog_5_method_10_code 2 = .ok (.iconst 1, 1) := by decide +kernel
theorem d_Kn_whomToAsk_3 : decode prog_5_method_10_code 3 = .ok (.istore_n 2, 1) := by decide +kernel
theorem d_Kn_whomToAsk_4 : decode prog_5_method_10_code 4 = .ok (.iload_n 2, 1) := by decide +kernel
theorem d_Kn_whomToAsk_5 : decode prog_5_method_10_code 5 = .ok (.aload_n 0, 1) := by decide +kernel
theorem d_Kn_whomToAsk_6 : decode prog_5_method_10_code 6 = .ok (.getfield 39, 3) := by decide +kernel
theorem d_Kn_whomToAsk_9 : decode prog_5_method_10_code 9 = .ok (.getfield 52, 3) := by decide +kernel
theorem d_Kn_whomToAsk_12 : decode prog_5_method_10_code 12 = .ok (.if_icmp .ge 24, 3) := by decide +kernel
theorem d_Kn_whomToAsk_15 : decode prog_5_method_10_code 15 = .ok (.aload_n 0, 1) := by decide +kernel
theorem d_Kn_whomToAsk_16 : decode prog_5_method_10_code 16 = .ok (.iload_n 2, 1) := by decide +kernel
theorem d_Kn_whomToAsk_17 : decode prog_5_method_10_code 17 = .ok (.invokevirtual 80, 3) := by decide +kernel
theorem d_Kn_whomToAsk_20 : decode prog_5_method_10_code 20 = .ok (.aload_n 0, 1) := by decide +kernel
theorem d_Kn_whomToAsk_21 : decode prog_5_method_10_code 21 = .ok (.iload_n 1, 1) := by decide +kernel
theorem d_Kn_whomToAsk_22 : decode prog_5_method_10_code 22 = .ok (.invokevirtual 80, 3) := by decide +kernel
theorem d_Kn_whomToAsk_25 : decode prog_5_method_10_code 25 = .ok (.if_icmp .ge 5, 3) := by decide +kernel
theorem d_Kn_whomToAsk_28 : decode prog_5_method_10_code 28 = .ok (.iload_n 2, 1) := by decide +kernel
theorem d_Kn_whomToAsk_29 : decode prog_5_method_10_code 29 = .ok (.istore_n 1, 1) := by decide +kernel
theorem d_Kn_whomToAsk_30 : decode prog_5_method_10_code 30 = .ok (.iinc 2 1, 3) := by decide +kernel
theorem d_Kn_whomToAsk_33 : decode prog_5_method_10_code 33 = .ok (.goto (-29), 3) := by decide +kernel
theorem d_Kn_whomToAsk_36 : decode prog_5_method_10_code 36 = .ok (.iload_n 1, 1) := by decide +kernel
theorem d_Kn_whomToAsk_37 : decode prog_5_method_10_code 37 = .ok (.ireturn, 1) := by decide +kernel
def b_Kn_whomToAsk_36 (c0 : ra_Sp) (I : Nat → ra_K) (Z : ra_R) : ra_K := w_il 1 <| w_ir Z
def b_Kn_whomToAsk_30 (c0 : ra_Sp) (I : Nat → ra_K) (Z : ra_R) : ra_K := w_inc 2 1 <| (I 4)
def b_Kn_whomToAsk_28 (c0 : ra_Sp) (I : Nat → ra_K) (Z : ra_R) : ra_K := w_il 2 <| w_is 1 <| (b_Kn_whomToAsk_30 c0 I Z)
def b_Kn_whomToAsk_15 (c0 : ra_Sp) (I : Nat → ra_K) (Z : ra_R) : ra_K := w_al 0 <| w_il 2 <| w_cv c0 2 8 <| w_al 0 <| w_il 1 <| w_cv c0 2 8 <| w_b2 (fun x y => y ≤ x) (b_Kn_whomToAsk_30 c0 I Z) (b_Kn_whomToAsk_28 c0 I Z)
def b_Kn_whomToAsk_4 (c0 : ra_Sp) (I : Nat → ra_K) (Z : ra_R) : ra_K := w_il 2 <| w_al 0 <| w_gr 8 0 <| w_gi 1 8 <| w_b2 (fun x y => y ≤ x) (b_Kn_whomToAsk_36 c0 I Z) (b_Kn_whomToAsk_15 c0 I Z)
def b_Kn_whomToAsk_0 (c0 : ra_Sp) (I : Nat → ra_K) (Z : ra_R) : ra_K := w_c 0 <| w_is 1 <| w_c 1 <| w_is 2 <| (I 4)
theorem o_Kn_whomToAsk_36 {X : ra_X} {p : Program} {l : Launch} {e : Env} {s : State} {m : MethodId} {args : Array Value} {below : List Frame} {meth : Method} {c : Code} {Z : ra_R} {c0 : ra_Sp}  (h0 : ra_MOK l X mi_Kn_worstLeft c0) (F : ra_Fx X p rm_Kn_whomToAsk s m args c prog_5_method_10_code 3 cn_Kn) (hr : meth.sig.returnType = (some .int)) (hlk : meth.locks = false) {I : Nat → ra_K} (hI : ∀ t ∈ [4], ra_At X p l e rm_Kn_whomToAsk s m args below meth c 3 (MQ below (ra_Qc X Z) args s 0 0 (ra_A X)) (I t) t) : ra_At X p l e rm_Kn_whomToAsk s m args below meth c 3 (MQ below (ra_Qc X Z) args s 0 0 (ra_A X)) (b_Kn_whomToAsk_36 c0 I Z) 36 :=
  r_iload_n F d_Kn_whomToAsk_36 rfl <| r_ireturn F hr hlk d_Kn_whomToAsk_37
theorem o_Kn_whomToAsk_30 {X : ra_X} {p : Program} {l : Launch} {e : Env} {s : State} {m : MethodId} {args : Array Value} {below : List Frame} {meth : Method} {c : Code} {Z : ra_R} {c0 : ra_Sp}  (h0 : ra_MOK l X mi_Kn_worstLeft c0) (F : ra_Fx X p rm_Kn_whomToAsk s m args c prog_5_method_10_code 3 cn_Kn) (hr : meth.sig.returnType = (some .int)) (hlk : meth.locks = false) {I : Nat → ra_K} (hI : ∀ t ∈ [4], ra_At X p l e rm_Kn_whomToAsk s m args below meth c 3 (MQ below (ra_Qc X Z) args s 0 0 (ra_A X)) (I t) t) : ra_At X p l e rm_Kn_whomToAsk s m args below meth c 3 (MQ below (ra_Qc X Z) args s 0 0 (ra_A X)) (b_Kn_whomToAsk_30 c0 I Z) 30 :=
  r_iinc F d_Kn_whomToAsk_30 (by decide) (by decide) <| r_goto F d_Kn_whomToAsk_33 (by decide) (hI 4 (by decide))
theorem o_Kn_whomToAsk_28 {X : ra_X} {p : Program} {l : Launch} {e : Env} {s : State} {m : MethodId} {args : Array Value} {below : List Frame} {meth : Method} {c : Code} {Z : ra_R} {c0 : ra_Sp}  (h0 : ra_MOK l X mi_Kn_worstLeft c0) (F : ra_Fx X p rm_Kn_whomToAsk s m args c prog_5_method_10_code 3 cn_Kn) (hr : meth.sig.returnType = (some .int)) (hlk : meth.locks = false) {I : Nat → ra_K} (hI : ∀ t ∈ [4], ra_At X p l e rm_Kn_whomToAsk s m args below meth c 3 (MQ below (ra_Qc X Z) args s 0 0 (ra_A X)) (I t) t) : ra_At X p l e rm_Kn_whomToAsk s m args below meth c 3 (MQ below (ra_Qc X Z) args s 0 0 (ra_A X)) (b_Kn_whomToAsk_28 c0 I Z) 28 :=
  r_iload_n F d_Kn_whomToAsk_28 rfl <| r_istore_n F d_Kn_whomToAsk_29 rfl (by decide) <| (o_Kn_whomToAsk_30 h0 F hr hlk hI)
theorem o_Kn_whomToAsk_15 {X : ra_X} {p : Program} {l : Launch} {e : Env} {s : State} {m : MethodId} {args : Array Value} {below : List Frame} {meth : Method} {c : Code} {Z : ra_R} {c0 : ra_Sp}  (h0 : ra_MOK l X mi_Kn_worstLeft c0) (F : ra_Fx X p rm_Kn_whomToAsk s m args c prog_5_method_10_code 3 cn_Kn) (hr : meth.sig.returnType = (some .int)) (hlk : meth.locks = false) {I : Nat → ra_K} (hI : ∀ t ∈ [4], ra_At X p l e rm_Kn_whomToAsk s m args below meth c 3 (MQ below (ra_Qc X Z) args s 0 0 (ra_A X)) (I t) t) : ra_At X p l e rm_Kn_whomToAsk s m args below meth c 3 (MQ below (ra_Qc X Z) args s 0 0 (ra_A X)) (b_Kn_whomToAsk_15 c0 I Z) 15 :=
  r_aload_n F d_Kn_whomToAsk_15 rfl <| r_iload_n F d_Kn_whomToAsk_16 rfl <| r_callV F h0 (co_Kn_worstLeft (by decide +kernel) (by decide +kernel)) ⟨rfl, by decide +kernel⟩ ⟨rfl, by decide⟩ ml_Kn_80 im_Kn_worstLeft se_Kn_worstLeft d_Kn_whomToAsk_17 <| r_aload_n F d_Kn_whomToAsk_20 rfl <| r_iload_n F d_Kn_whomToAsk_21 rfl <| r_callV F h0 (co_Kn_worstLeft (by decide +kernel) (by decide +kernel)) ⟨rfl, by decide +kernel⟩ ⟨rfl, by decide⟩ ml_Kn_80 im_Kn_worstLeft se_Kn_worstLeft d_Kn_whomToAsk_22 <| r_icmp_ge F d_Kn_whomToAsk_25 (by decide) (o_Kn_whomToAsk_30 h0 F hr hlk hI) (o_Kn_whomToAsk_28 h0 F hr hlk hI)
theorem o_Kn_whomToAsk_4 {X : ra_X} {p : Program} {l : Launch} {e : Env} {s : State} {m : MethodId} {args : Array Value} {below : List Frame} {meth : Method} {c : Code} {Z : ra_R} {c0 : ra_Sp}  (h0 : ra_MOK l X mi_Kn_worstLeft c0) (F : ra_Fx X p rm_Kn_whomToAsk s m args c prog_5_method_10_code 3 cn_Kn) (hr : meth.sig.returnType = (some .int)) (hlk : meth.locks = false) {I : Nat → ra_K} (hI : ∀ t ∈ [4], ra_At X p l e rm_Kn_whomToAsk s m args below meth c 3 (MQ below (ra_Qc X Z) args s 0 0 (ra_A X)) (I t) t) : ra_At X p l e rm_Kn_whomToAsk s m args below meth c 3 (MQ below (ra_Qc X Z) args s 0 0 (ra_A X)) (b_Kn_whomToAsk_4 c0 I Z) 4 :=
  r_iload_n F d_Kn_whomToAsk_4 rfl <| r_aload_n F d_Kn_whomToAsk_5 rfl <| r_getR F cg_Kn (j := 0) (by decide) rfl fl_Kn_39 d_Kn_whomToAsk_6 <| r_getI F cg_V (j := 8) (by decide) rfl fl_Kn_52 d_Kn_whomToAsk_9 <| r_icmp_ge F d_Kn_whomToAsk_12 (by decide) (o_Kn_whomToAsk_36 h0 F hr hlk hI) (o_Kn_whomToAsk_15 h0 F hr hlk hI)
theorem o_Kn_whomToAsk_0 {X : ra_X} {p : Program} {l : Launch} {e : Env} {s : State} {m : MethodId} {args : Array Value} {below : List Frame} {meth : Method} {c : Code} {Z : ra_R} {c0 : ra_Sp}  (h0 : ra_MOK l X mi_Kn_worstLeft c0) (F : ra_Fx X p rm_Kn_whomToAsk s m args c prog_5_method_10_code 3 cn_Kn) (hr : meth.sig.returnType = (some .int)) (hlk : meth.locks = false) {I : Nat → ra_K} (hI : ∀ t ∈ [4], ra_At X p l e rm_Kn_whomToAsk s m args below meth c 3 (MQ below (ra_Qc X Z) args s 0 0 (ra_A X)) (I t) t) : ra_At X p l e rm_Kn_whomToAsk s m args below meth c 3 (MQ below (ra_Qc X Z) args s 0 0 (ra_A X)) (b_Kn_whomToAsk_0 c0 I Z) 0 :=
  r_iconst F d_Kn_whomToAsk_0 (by decide) <| r_istore_n F d_Kn_whomToAsk_1 rfl (by decide) <| r_iconst F d_Kn_whomToAsk_2 (by decide) <| r_istore_n F d_Kn_whomToAsk_3 rfl (by decide) <| (hI 4 (by decide))
theorem g_Kn_whomToAsk {l : Launch} {X : ra_X} {c0 : ra_Sp}  (h0 : ra_MOK l X mi_Kn_worstLeft c0) (sp : ra_Sp) (I : ra_R → List Value → ra_St → Nat → ra_M → ra_K) (ve : ∀ as σ Z, ra_c1 as = true → as.length = 1 → sp as σ Z → b_Kn_whomToAsk_0 c0 (ra_I (I Z as σ)) Z (ra_pad 3 as) [] σ) (v4 : ∀ as σ Z, sp as σ Z → ∀ μ L S σ1, I Z as σ 4 μ L S σ1 → b_Kn_whomToAsk_4 c0 (ra_J (I Z as σ) μ) Z L S σ1) : ra_MOK l X mi_Kn_whomToAsk sp := by
  refine ra_enter (k := fun Z as σ => b_Kn_whomToAsk_0 c0 (ra_I (I Z as σ)) Z) cn_Kn rfl (by decide +kernel) ⟨by decide +kernel, by decide +kernel⟩ (by decide +kernel) ?_ ve
  intro p e s m args below meth c Z as σ hsp F hr hlk
  refine o_Kn_whomToAsk_0 h0 F hr hlk (ra_cuts (b := fun t J => if t = 4 then b_Kn_whomToAsk_4 c0 J Z else fun _ _ _ => False) ?_ ?_)
  · intro t ht J hJ
    simp only [List.mem_cons, List.not_mem_nil, or_false] at ht
    rcases ht with rfl
    · exact o_Kn_whomToAsk_4 h0 F hr hlk hJ
  · intro t ht μ L S σ1 hI
    simp only [List.mem_cons, List.not_mem_nil, or_false] at ht
    rcases ht with rfl
    · exact v4 as σ Z hsp μ L S σ1 hI

theorem d_R_ask_0 : decode prog_1_method_24_code 0 = .ok (.iload_n 1, 1) := by decide +kernel
theorem d_R_ask_1 : decode prog_1_method_24_code 1 = .ok (.iconst 0, 1) := by decide +kernel
theorem d_R_ask_2 : decode prog_1_method_24_code 2 = .ok (.iconst 1, 1) := by decide +kernel
theorem d_R_ask_3 : decode prog_1_method_24_code 3 = .ok (.invokestatic 73, 3) := by decide +kernel
theorem d_R_ask_6 : decode prog_1_method_24_code 6 = .ok (.ifCond .eq 6, 3) := by decide +kernel
theorem d_R_ask_9 : decode prog_1_method_24_code 9 = .ok (.bipush (-2), 2) := by decide +kernel
theorem d_R_ask_11 : decode prog_1_method_24_code 11 = .ok (.ireturn, 1) := by decide +kernel
theorem d_R_ask_12 : decode prog_1_method_24_code 12 = .ok (.aload_n 0, 1) := by decide +kernel
theorem d_R_ask_13 : decode prog_1_method_24_code 13 = .ok (.getfield 51, 3) := by decide +kernel
theorem d_R_ask_16 : decode prog_1_method_24_code 16 = .ok (.invokevirtual 215, 3) := by decide +kernel
theorem d_R_ask_19 : decode prog_1_method_24_code 19 = .ok (.aload_n 0, 1) := by decide +kernel
theorem d_R_ask_20 : decode prog_1_method_24_code 20 = .ok (.getfield 12, 3) := by decide +kernel
theorem d_R_ask_23 : decode prog_1_method_24_code 23 = .ok (.getfield 152, 3) := by decide +kernel
theorem d_R_ask_26 : decode prog_1_method_24_code 26 = .ok (.ifCond .eq 13, 3) := by decide +kernel
theorem d_R_ask_29 : decode prog_1_method_24_code 29 = .ok (.aload_n 0, 1) := by decide +kernel
theorem d_R_ask_30 : decode prog_1_method_24_code 30 = .ok (.getfield 51, 3) := by decide +kernel
theorem d_R_ask_33 : decode prog_1_method_24_code 33 = .ok (.getfield 218, 3) := by decide +kernel
theorem d_R_ask_36 : decode prog_1_method_24_code 36 = .ok (.ifCond .ne 6, 3) := by decide +kernel
theorem d_R_ask_39 : decode prog_1_method_24_code 39 = .ok (.bipush (-3), 2) := by decide +kernel
theorem d_R_ask_41 : decode prog_1_method_24_code 41 = .ok (.ireturn, 1) := by decide +kernel
theorem d_R_ask_42 : decode prog_1_method_24_code 42 = .ok (.aload_n 0, 1) := by decide +kernel
theorem d_R_ask_43 : decode prog_1_method_24_code 43 = .ok (.getfield 51, 3) := by decide +kernel
theorem d_R_ask_46 : decode prog_1_method_24_code 46 = .ok (.invokevirtual 224, 3) := by decide +kernel
theorem d_R_ask_49 : decode prog_1_method_24_code 49 = .ok (.istore_n 2, 1) := by decide +kernel
theorem d_R_ask_50 : decode prog_1_method_24_code 50 = .ok (.iload_n 1, 1) := by decide +kernel
theorem d_R_ask_51 : decode prog_1_method_24_code 51 = .ok (.ifCond .ne 7, 3) := by decide +kernel
theorem d_R_ask_54 : decode prog_1_method_24_code 54 = .ok (.iload_n 2, 1) := by decide +kernel
theorem d_R_ask_55 : decode prog_1_method_24_code 55 = .ok (.goto 11, 3) := by decide +kernel
theorem d_R_ask_58 : decode prog_1_method_24_code 58 = .ok (.aload_n 0, 1) := by decide +kernel
theorem d_R_ask_59 : decode prog_1_method_24_code 59 = .ok (.getfield 51, 3) := by decide +kernel
theorem d_R_ask_62 : decode prog_1_method_24_code 62 = .ok (.iload_n 2, 1) := by decide +kernel
theorem d_R_ask_63 : decode prog_1_method_24_code 63 = .ok (.invokevirtual 227, 3) := by decide +kernel
theorem d_R_ask_66 : decode prog_1_method_24_code 66 = .ok (.ireturn, 1) := by decide +kernel
def b_R_ask_66 (c0 c1 c2 c3 : ra_Sp) (Z : ra_R) : ra_K := w_ir Z
def b_R_ask_58 (c0 c1 c2 c3 : ra_Sp) (Z : ra_R) : ra_K := w_al 0 <| w_gr 0 5 <| w_il 2 <| w_cv c3 2 8 <| (b_R_ask_66 c0 c1 c2 c3 Z)
def b_R_ask_54 (c0 c1 c2 c3 : ra_Sp) (Z : ra_R) : ra_K := w_il 2 <| (b_R_ask_66 c0 c1 c2 c3 Z)
def b_R_ask_42 (c0 c1 c2 c3 : ra_Sp) (Z : ra_R) : ra_K := w_al 0 <| w_gr 0 5 <| w_cv c2 1 8 <| w_is 2 <| w_il 1 <| w_b1 (fun x => x = 0) (b_R_ask_54 c0 c1 c2 c3 Z) (b_R_ask_58 c0 c1 c2 c3 Z)
def b_R_ask_39 (c0 c1 c2 c3 : ra_Sp) (Z : ra_R) : ra_K := w_c (-3) <| w_ir Z
def b_R_ask_29 (c0 c1 c2 c3 : ra_Sp) (Z : ra_R) : ra_K := w_al 0 <| w_gr 0 5 <| w_gi 8 9 <| w_b1 (fun x => x = 0) (b_R_ask_39 c0 c1 c2 c3 Z) (b_R_ask_42 c0 c1 c2 c3 Z)
def b_R_ask_12 (c0 c1 c2 c3 : ra_Sp) (Z : ra_R) : ra_K := w_al 0 <| w_gr 0 5 <| w_cv c1 1 8 <| w_al 0 <| w_gr 0 0 <| w_gi 1 8 <| w_b1 (fun x => x = 0) (b_R_ask_39 c0 c1 c2 c3 Z) (b_R_ask_29 c0 c1 c2 c3 Z)
def b_R_ask_9 (c0 c1 c2 c3 : ra_Sp) (Z : ra_R) : ra_K := w_c (-2) <| w_ir Z
def b_R_ask_0 (c0 c1 c2 c3 : ra_Sp) (Z : ra_R) : ra_K := w_il 1 <| w_c 0 <| w_c 1 <| w_cs c0 3 <| w_b1 (fun x => x = 0) (b_R_ask_12 c0 c1 c2 c3 Z) (b_R_ask_9 c0 c1 c2 c3 Z)
theorem o_R_ask_66 {X : ra_X} {p : Program} {l : Launch} {e : Env} {s : State} {m : MethodId} {args : Array Value} {below : List Frame} {meth : Method} {c : Code} {Z : ra_R} {c0 c1 c2 c3 : ra_Sp}  (h0 : ra_MOK l X mi_R_isOutside c0) (h1 : ra_MOK l X mi_Kn_bringUp c1) (h2 : ra_MOK l X mi_Kn_whomToAsk c2) (h3 : ra_MOK l X mi_Kn_worstLeft c3) (F : ra_Fx X p rm_R_ask s m args c prog_1_method_24_code 3 cn_R) (hr : meth.sig.returnType = (some .int)) (hlk : meth.locks = false) : ra_At X p l e rm_R_ask s m args below meth c 3 (MQ below (ra_Qc X Z) args s 0 0 (ra_A X)) (b_R_ask_66 c0 c1 c2 c3 Z) 66 :=
  r_ireturn F hr hlk d_R_ask_66
theorem o_R_ask_58 {X : ra_X} {p : Program} {l : Launch} {e : Env} {s : State} {m : MethodId} {args : Array Value} {below : List Frame} {meth : Method} {c : Code} {Z : ra_R} {c0 c1 c2 c3 : ra_Sp}  (h0 : ra_MOK l X mi_R_isOutside c0) (h1 : ra_MOK l X mi_Kn_bringUp c1) (h2 : ra_MOK l X mi_Kn_whomToAsk c2) (h3 : ra_MOK l X mi_Kn_worstLeft c3) (F : ra_Fx X p rm_R_ask s m args c prog_1_method_24_code 3 cn_R) (hr : meth.sig.returnType = (some .int)) (hlk : meth.locks = false) : ra_At X p l e rm_R_ask s m args below meth c 3 (MQ below (ra_Qc X Z) args s 0 0 (ra_A X)) (b_R_ask_58 c0 c1 c2 c3 Z) 58 :=
  r_aload_n F d_R_ask_58 rfl <| r_getR F cg_R (j := 5) (by decide) rfl fl_R_51 d_R_ask_59 <| r_iload_n F d_R_ask_62 rfl <| r_callV F h3 (co_Kn_worstLeft (by decide +kernel) (by decide +kernel)) ⟨rfl, by decide +kernel⟩ ⟨rfl, by decide⟩ ml_R_227 im_Kn_worstLeft se_Kn_worstLeft d_R_ask_63 <| (o_R_ask_66 h0 h1 h2 h3 F hr hlk)
theorem o_R_ask_54 {X : ra_X} {p : Program} {l : Launch} {e : Env} {s : State} {m : MethodId} {args : Array Value} {below : List Frame} {meth : Method} {c : Code} {Z : ra_R} {c0 c1 c2 c3 : ra_Sp}  (h0 : ra_MOK l X mi_R_isOutside c0) (h1 : ra_MOK l X mi_Kn_bringUp c1) (h2 : ra_MOK l X mi_Kn_whomToAsk c2) (h3 : ra_MOK l X mi_Kn_worstLeft c3) (F : ra_Fx X p rm_R_ask s m args c prog_1_method_24_code 3 cn_R) (hr : meth.sig.returnType = (some .int)) (hlk : meth.locks = false) : ra_At X p l e rm_R_ask s m args below meth c 3 (MQ below (ra_Qc X Z) args s 0 0 (ra_A X)) (b_R_ask_54 c0 c1 c2 c3 Z) 54 :=
  r_iload_n F d_R_ask_54 rfl <| r_goto F d_R_ask_55 (by decide) (o_R_ask_66 h0 h1 h2 h3 F hr hlk)
theorem o_R_ask_42 {X : ra_X} {p : Program} {l : Launch} {e : Env} {s : State} {m : MethodId} {args : Array Value} {below : List Frame} {meth : Method} {c : Code} {Z : ra_R} {c0 c1 c2 c3 : ra_Sp}  (h0 : ra_MOK l X mi_R_isOutside c0) (h1 : ra_MOK l X mi_Kn_bringUp c1) (h2 : ra_MOK l X mi_Kn_whomToAsk c2) (h3 : ra_MOK l X mi_Kn_worstLeft c3) (F : ra_Fx X p rm_R_ask s m args c prog_1_method_24_code 3 cn_R) (hr : meth.sig.returnType = (some .int)) (hlk : meth.locks = false) : ra_At X p l e rm_R_ask s m args below meth c 3 (MQ below (ra_Qc X Z) args s 0 0 (ra_A X)) (b_R_ask_42 c0 c1 c2 c3 Z) 42 :=
  r_aload_n F d_R_ask_42 rfl <| r_getR F cg_R (j := 5) (by decide) rfl fl_R_51 d_R_ask_43 <| r_callV F h2 (co_Kn_whomToAsk (by decide +kernel) (by decide +kernel)) ⟨rfl, by decide +kernel⟩ ⟨rfl, by decide⟩ ml_R_224 im_Kn_whomToAsk se_Kn_whomToAsk d_R_ask_46 <| r_istore_n F d_R_ask_49 rfl (by decide) <| r_iload_n F d_R_ask_50 rfl <| r_if_ne F d_R_ask_51 (by decide) (o_R_ask_58 h0 h1 h2 h3 F hr hlk) (o_R_ask_54 h0 h1 h2 h3 F hr hlk)
theorem o_R_ask_39 {X : ra_X} {p : Program} {l : Launch} {e : Env} {s : State} {m : MethodId} {args : Array Value} {below : List Frame} {meth : Method} {c : Code} {Z : ra_R} {c0 c1 c2 c3 : ra_Sp}  (h0 : ra_MOK l X mi_R_isOutside c0) (h1 : ra_MOK l X mi_Kn_bringUp c1) (h2 : ra_MOK l X mi_Kn_whomToAsk c2) (h3 : ra_MOK l X mi_Kn_worstLeft c3) (F : ra_Fx X p rm_R_ask s m args c prog_1_method_24_code 3 cn_R) (hr : meth.sig.returnType = (some .int)) (hlk : meth.locks = false) : ra_At X p l e rm_R_ask s m args below meth c 3 (MQ below (ra_Qc X Z) args s 0 0 (ra_A X)) (b_R_ask_39 c0 c1 c2 c3 Z) 39 :=
  r_bipush F d_R_ask_39 (by decide) <| r_ireturn F hr hlk d_R_ask_41
theorem o_R_ask_29 {X : ra_X} {p : Program} {l : Launch} {e : Env} {s : State} {m : MethodId} {args : Array Value} {below : List Frame} {meth : Method} {c : Code} {Z : ra_R} {c0 c1 c2 c3 : ra_Sp}  (h0 : ra_MOK l X mi_R_isOutside c0) (h1 : ra_MOK l X mi_Kn_bringUp c1) (h2 : ra_MOK l X mi_Kn_whomToAsk c2) (h3 : ra_MOK l X mi_Kn_worstLeft c3) (F : ra_Fx X p rm_R_ask s m args c prog_1_method_24_code 3 cn_R) (hr : meth.sig.returnType = (some .int)) (hlk : meth.locks = false) : ra_At X p l e rm_R_ask s m args below meth c 3 (MQ below (ra_Qc X Z) args s 0 0 (ra_A X)) (b_R_ask_29 c0 c1 c2 c3 Z) 29 :=
  r_aload_n F d_R_ask_29 rfl <| r_getR F cg_R (j := 5) (by decide) rfl fl_R_51 d_R_ask_30 <| r_getI F cg_Kn (j := 9) (by decide) rfl fl_R_218 d_R_ask_33 <| r_if_ne F d_R_ask_36 (by decide) (o_R_ask_42 h0 h1 h2 h3 F hr hlk) (o_R_ask_39 h0 h1 h2 h3 F hr hlk)
theorem o_R_ask_12 {X : ra_X} {p : Program} {l : Launch} {e : Env} {s : State} {m : MethodId} {args : Array Value} {below : List Frame} {meth : Method} {c : Code} {Z : ra_R} {c0 c1 c2 c3 : ra_Sp}  (h0 : ra_MOK l X mi_R_isOutside c0) (h1 : ra_MOK l X mi_Kn_bringUp c1) (h2 : ra_MOK l X mi_Kn_whomToAsk c2) (h3 : ra_MOK l X mi_Kn_worstLeft c3) (F : ra_Fx X p rm_R_ask s m args c prog_1_method_24_code 3 cn_R) (hr : meth.sig.returnType = (some .int)) (hlk : meth.locks = false) : ra_At X p l e rm_R_ask s m args below meth c 3 (MQ below (ra_Qc X Z) args s 0 0 (ra_A X)) (b_R_ask_12 c0 c1 c2 c3 Z) 12 :=
  r_aload_n F d_R_ask_12 rfl <| r_getR F cg_R (j := 5) (by decide) rfl fl_R_51 d_R_ask_13 <| r_callV F h1 (co_Kn_bringUp (by decide +kernel) (by decide +kernel)) ⟨rfl, by decide +kernel⟩ ⟨rfl, by decide⟩ ml_R_215 im_Kn_bringUp se_Kn_bringUp d_R_ask_16 <| r_aload_n F d_R_ask_19 rfl <| r_getR F cg_R (j := 0) (by decide) rfl fl_R_12 d_R_ask_20 <| r_getI F cg_V (j := 8) (by decide) rfl fl_R_152 d_R_ask_23 <| r_if_eq F d_R_ask_26 (by decide) (o_R_ask_39 h0 h1 h2 h3 F hr hlk) (o_R_ask_29 h0 h1 h2 h3 F hr hlk)
theorem o_R_ask_9 {X : ra_X} {p : Program} {l : Launch} {e : Env} {s : State} {m : MethodId} {args : Array Value} {below : List Frame} {meth : Method} {c : Code} {Z : ra_R} {c0 c1 c2 c3 : ra_Sp}  (h0 : ra_MOK l X mi_R_isOutside c0) (h1 : ra_MOK l X mi_Kn_bringUp c1) (h2 : ra_MOK l X mi_Kn_whomToAsk c2) (h3 : ra_MOK l X mi_Kn_worstLeft c3) (F : ra_Fx X p rm_R_ask s m args c prog_1_method_24_code 3 cn_R) (hr : meth.sig.returnType = (some .int)) (hlk : meth.locks = false) : ra_At X p l e rm_R_ask s m args below meth c 3 (MQ below (ra_Qc X Z) args s 0 0 (ra_A X)) (b_R_ask_9 c0 c1 c2 c3 Z) 9 :=
  r_bipush F d_R_ask_9 (by decide) <| r_ireturn F hr hlk d_R_ask_11
theorem o_R_ask_0 {X : ra_X} {p : Program} {l : Launch} {e : Env} {s : State} {m : MethodId} {args : Array Value} {below : List Frame} {meth : Method} {c : Code} {Z : ra_R} {c0 c1 c2 c3 : ra_Sp}  (h0 : ra_MOK l X mi_R_isOutside c0) (h1 : ra_MOK l X mi_Kn_bringUp c1) (h2 : ra_MOK l X mi_Kn_whomToAsk c2) (h3 : ra_MOK l X mi_Kn_worstLeft c3) (F : ra_Fx X p rm_R_ask s m args c prog_1_method_24_code 3 cn_R) (hr : meth.sig.returnType = (some .int)) (hlk : meth.locks = false) : ra_At X p l e rm_R_ask s m args below meth c 3 (MQ below (ra_Qc X Z) args s 0 0 (ra_A X)) (b_R_ask_0 c0 c1 c2 c3 Z) 0 :=
  r_iload_n F d_R_ask_0 rfl <| r_iconst F d_R_ask_1 (by decide) <| r_iconst F d_R_ask_2 (by decide) <| r_callS F h0 (co_R_isOutside (by decide +kernel) (by decide +kernel)) ⟨rfl, by decide +kernel⟩ ml_R_73 st_R_isOutside d_R_ask_3 <| r_if_eq F d_R_ask_6 (by decide) (o_R_ask_12 h0 h1 h2 h3 F hr hlk) (o_R_ask_9 h0 h1 h2 h3 F hr hlk)
theorem g_R_ask {l : Launch} {X : ra_X} {c0 c1 c2 c3 : ra_Sp}  (h0 : ra_MOK l X mi_R_isOutside c0) (h1 : ra_MOK l X mi_Kn_bringUp c1) (h2 : ra_MOK l X mi_Kn_whomToAsk c2) (h3 : ra_MOK l X mi_Kn_worstLeft c3) (sp : ra_Sp) (ve : ∀ as σ Z, ra_c1 as = true → as.length = 2 → sp as σ Z → b_R_ask_0 c0 c1 c2 c3 Z (ra_pad 3 as) [] σ) : ra_MOK l X mi_R_ask sp := by
  refine ra_enter (k := fun Z as σ => b_R_ask_0 c0 c1 c2 c3 Z) cn_R rfl (by decide +kernel) ⟨by decide +kernel, by decide +kernel⟩ (by decide +kernel) ?_ ve
  intro p e s m args below meth c Z as σ hsp F hr hlk
  exact o_R_ask_0 h0 h1 h2 h3 F hr hlk

theorem d_He_rainsAbove_0 : decode prog_4_method_4_code 0 = .ok (.iconst 0, 1) := by decide +kernel
theorem d_He_rainsAbove_1 : decode prog_4_method_4_code 1 = .ok (.istore_n 2, 1) := by decide +kernel
theorem d_He_rainsAbove_2 : decode prog_4_method_4_code 2 = .ok (.iconst 0, 1) := by decide +kernel
theorem d_He_rainsAbove_3 : decode prog_4_method_4_code 3 = .ok (.istore_n 3, 1) := by decide +kernel
theorem d_He_rainsAbove_4 : decode prog_4_method_4_code 4 = .ok (.iload_n 3, 1) := by decide +kernel
theorem d_He_rainsAbove_5 : decode prog_4_method_4_code 5 = .ok (.aload_n 0, 1) := by decide +kernel
theorem d_He_rainsAbove_6 : decode prog_4_method_4_code 6 = .ok (.getfield 19, 3) := by decide +kernel
theorem d_He_rainsAbove_9 : decode prog_4_method_4_code 9 = .ok (.getfield 44, 3) := by decide +kernel
theorem d_He_rainsAbove_12 : decode prog_4_method_4_code 12 = .ok (.if_icmp .ge 25, 3) := by decide +kernel
theorem d_He_rainsAbove_15 : decode prog_4_method_4_code 15 = .ok (.aload_n 0, 1) := by decide +kernel
theorem d_He_rainsAbove_16 : decode prog_4_method_4_code 16 = .ok (.getfield 19, 3) := by decide +kernel
theorem d_He_rainsAbove_19 : decode prog_4_method_4_code 19 = .ok (.getfield 47, 3) := by decide +kernel
theorem d_He_rainsAbove_22 : decode prog_4_method_4_code 22 = .ok (.iload_n 3, 1) := by decide +kernel
theorem d_He_rainsAbove_23 : decode prog_4_method_4_code 23 = .ok (.iaload, 1) := by decide +kernel
theorem d_He_rainsAbove_24 : decode prog_4_method_4_code 24 = .ok (.iload_n 1, 1) := by decide +kernel
theorem d_He_rainsAbove_25 : decode prog_4_method_4_code 25 = .ok (.if_icmp .le 6, 3) := by decide +kernel
theorem d_He_rainsAbove_28 : decode prog_4_method_4_code 28 = .ok (.iinc 2 1, 3) := by decide +kernel
theorem d_He_rainsAbove_31 : decode prog_4_method_4_code 31 = .ok (.iinc 3 1, 3) := by decide +kernel
theorem d_He_rainsAbove_34 : decode prog_4_method_4_code 34 = .ok (.goto (-30), 3) := by decide +kernel
theorem d_He_rainsAbove_37 : decode prog_4_method_4_code 37 = .ok (.iload_n 2, 1) := by decide +kernel
theorem d_He_rainsAbove_38 : decode prog_4_method_4_code 38 = .ok (.ireturn, 1) := by decide +kernel
def b_He_rainsAbove_37 (I : Nat → ra_K) (Z : ra_R) : ra_K := w_il 2 <| w_ir Z
def b_He_rainsAbove_31 (I : Nat → ra_K) (Z : ra_R) : ra_K := w_inc 3 1 <| (I 4)
def b_He_rainsAbove_28 (I : Nat → ra_K) (Z : ra_R) : ra_K := w_inc 2 1 <| (b_He_rainsAbove_31 I Z)
def b_He_rainsAbove_15 (I : Nat → ra_K) (Z : ra_R) : ra_K := w_al 0 <| w_gr 9 1 <| w_gr 3 0 <| w_il 3 <| w_ald <| w_il 1 <| w_b2 (fun x y => x ≤ y) (b_He_rainsAbove_31 I Z) (b_He_rainsAbove_28 I Z)
def b_He_rainsAbove_4 (I : Nat → ra_K) (Z : ra_R) : ra_K := w_il 3 <| w_al 0 <| w_gr 9 1 <| w_gi 3 1 <| w_b2 (fun x y => y ≤ x) (b_He_rainsAbove_37 I Z) (b_He_rainsAbove_15 I Z)
def b_He_rainsAbove_0 (I : Nat → ra_K) (Z : ra_R) : ra_K := w_c 0 <| w_is 2 <| w_c 0 <| w_is 3 <| (I 4)
theorem o_He_rainsAbove_37 {X : ra_X} {p : Program} {l : Launch} {e : Env} {s : State} {m : MethodId} {args : Array Value} {below : List Frame} {meth : Method} {c : Code} {Z : ra_R}  (F : ra_Fx X p rm_He_rainsAbove s m args c prog_4_method_4_code 4 cn_He) (hr : meth.sig.returnType = (some .int)) (hlk : meth.locks = false) {I : Nat → ra_K} (hI : ∀ t ∈ [4], ra_At X p l e rm_He_rainsAbove s m args below meth c 4 (MQ below (ra_Qc X Z) args s 0 0 (ra_A X)) (I t) t) : ra_At X p l e rm_He_rainsAbove s m args below meth c 4 (MQ below (ra_Qc X Z) args s 0 0 (ra_A X)) (b_He_rainsAbove_37 I Z) 37 :=
  r_iload_n F d_He_rainsAbove_37 rfl <| r_ireturn F hr hlk d_He_rainsAbove_38
theorem o_He_rainsAbove_31 {X : ra_X} {p : Program} {l : Launch} {e : Env} {s : State} {m : MethodId} {args : Array Value} {below : List Frame} {meth : Method} {c : Code} {Z : ra_R}  (F : ra_Fx X p rm_He_rainsAbove s m args c prog_4_method_4_code 4 cn_He) (hr : meth.sig.returnType = (some .int)) (hlk : meth.locks = false) {I : Nat → ra_K} (hI : ∀ t ∈ [4], ra_At X p l e rm_He_rainsAbove s m args below meth c 4 (MQ below (ra_Qc X Z) args s 0 0 (ra_A X)) (I t) t) : ra_At X p l e rm_He_rainsAbove s m args below meth c 4 (MQ below (ra_Qc X Z) args s 0 0 (ra_A X)) (b_He_rainsAbove_31 I Z) 31 :=
  r_iinc F d_He_rainsAbove_31 (by decide) (by decide) <| r_goto F d_He_rainsAbove_34 (by decide) (hI 4 (by decide))
theorem o_He_rainsAbove_28 {X : ra_X} {p : Program} {l : Launch} {e : Env} {s : State} {m : MethodId} {args : Array Value} {below : List Frame} {meth : Method} {c : Code} {Z : ra_R}  (F : ra_Fx X p rm_He_rainsAbove s m args c prog_4_method_4_code 4 cn_He) (hr : meth.sig.returnType = (some .int)) (hlk : meth.locks = false) {I : Nat → ra_K} (hI : ∀ t ∈ [4], ra_At X p l e rm_He_rainsAbove s m args below meth c 4 (MQ below (ra_Qc X Z) args s 0 0 (ra_A X)) (I t) t) : ra_At X p l e rm_He_rainsAbove s m args below meth c 4 (MQ below (ra_Qc X Z) args s 0 0 (ra_A X)) (b_He_rainsAbove_28 I Z) 28 :=
  r_iinc F d_He_rainsAbove_28 (by decide) (by decide) <| (o_He_rainsAbove_31 F hr hlk hI)
theorem o_He_rainsAbove_15 {X : ra_X} {p : Program} {l : Launch} {e : Env} {s : State} {m : MethodId} {args : Array Value} {below : List Frame} {meth : Method} {c : Code} {Z : ra_R}  (F : ra_Fx X p rm_He_rainsAbove s m args c prog_4_method_4_code 4 cn_He) (hr : meth.sig.returnType = (some .int)) (hlk : meth.locks = false) {I : Nat → ra_K} (hI : ∀ t ∈ [4], ra_At X p l e rm_He_rainsAbove s m args below meth c 4 (MQ below (ra_Qc X Z) args s 0 0 (ra_A X)) (I t) t) : ra_At X p l e rm_He_rainsAbove s m args below meth c 4 (MQ below (ra_Qc X Z) args s 0 0 (ra_A X)) (b_He_rainsAbove_15 I Z) 15 :=
  r_aload_n F d_He_rainsAbove_15 rfl <| r_getR F cg_He (j := 1) (by decide) rfl fl_He_19 d_He_rainsAbove_16 <| r_getR F cg_Wt (j := 0) (by decide) rfl fl_He_47 d_He_rainsAbove_19 <| r_iload_n F d_He_rainsAbove_22 rfl <| r_iaload F d_He_rainsAbove_23 <| r_iload_n F d_He_rainsAbove_24 rfl <| r_icmp_le F d_He_rainsAbove_25 (by decide) (o_He_rainsAbove_31 F hr hlk hI) (o_He_rainsAbove_28 F hr hlk hI)
theorem o_He_rainsAbove_4 {X : ra_X} {p : Program} {l : Launch} {e : Env} {s : State} {m : MethodId} {args : Array Value} {below : List Frame} {meth : Method} {c : Code} {Z : ra_R}  (F : ra_Fx X p rm_He_rainsAbove s m args c prog_4_method_4_code 4 cn_He) (hr : meth.sig.returnType = (some .int)) (hlk : meth.locks = false) {I : Nat → ra_K} (hI : ∀ t ∈ [4], ra_At X p l e rm_He_rainsAbove s m args below meth c 4 (MQ below (ra_Qc X Z) args s 0 0 (ra_A X)) (I t) t) : ra_At X p l e rm_He_rainsAbove s m args below meth c 4 (MQ below (ra_Qc X Z) args s 0 0 (ra_A X)) (b_He_rainsAbove_4 I Z) 4 :=
  r_iload_n F d_He_rainsAbove_4 rfl <| r_aload_n F d_He_rainsAbove_5 rfl <| r_getR F cg_He (j := 1) (by decide) rfl fl_He_19 d_He_rainsAbove_6 <| r_getI F cg_Wt (j := 1) (by decide) rfl fl_He_44 d_He_rainsAbove_9 <| r_icmp_ge F d_He_rainsAbove_12 (by decide) (o_He_rainsAbove_37 F hr hlk hI) (o_He_rainsAbove_15 F hr hlk hI)
theorem o_He_rainsAbove_0 {X : ra_X} {p : Program} {l : Launch} {e : Env} {s : State} {m : MethodId} {args : Array Value} {below : List Frame} {meth : Method} {c : Code} {Z : ra_R}  (F : ra_Fx X p rm_He_rainsAbove s m args c prog_4_method_4_code 4 cn_He) (hr : meth.sig.returnType = (some .int)) (hlk : meth.locks = false) {I : Nat → ra_K} (hI : ∀ t ∈ [4], ra_At X p l e rm_He_rainsAbove s m args below meth c 4 (MQ below (ra_Qc X Z) args s 0 0 (ra_A X)) (I t) t) : ra_At X p l e rm_He_rainsAbove s m args below meth c 4 (MQ below (ra_Qc X Z) args s 0 0 (ra_A X)) (b_He_rainsAbove_0 I Z) 0 :=
  r_iconst F d_He_rainsAbove_0 (by decide) <| r_istore_n F d_He_rainsAbove_1 rfl (by decide) <| r_iconst F d_He_rainsAbove_2 (by decide) <| r_istore_n F d_He_rainsAbove_3 rfl (by decide) <| (hI 4 (by decide))
theorem g_He_rainsAbove {l : Launch} {X : ra_X}  (sp : ra_Sp) (I : ra_R → List Value → ra_St → Nat → ra_M → ra_K) (ve : ∀ as σ Z, ra_c1 as = true → as.length = 2 → sp as σ Z → b_He_rainsAbove_0 (ra_I (I Z as σ)) Z (ra_pad 4 as) [] σ) (v4 : ∀ as σ Z, sp as σ Z → ∀ μ L S σ1, I Z as σ 4 μ L S σ1 → b_He_rainsAbove_4 (ra_J (I Z as σ) μ) Z L S σ1) : ra_MOK l X mi_He_rainsAbove sp := by
  refine ra_enter (k := fun Z as σ => b_He_rainsAbove_0 (ra_I (I Z as σ)) Z) cn_He rfl (by decide +kernel) ⟨by decide +kernel, by decide +kernel⟩ (by decide +kernel) ?_ ve
  intro p e s m args below meth c Z as σ hsp F hr hlk
  refine o_He_rainsAbove_0 F hr hlk (ra_cuts (b := fun t J => if t = 4 then b_He_rainsAbove_4 J Z else fun _ _ _ => False) ?_ ?_)
  · intro t ht J hJ
    simp only [List.mem_cons, List.not_mem_nil, or_false] at ht
    rcases ht with rfl
    · exact o_He_rainsAbove_4 F hr hlk hJ
  · intro t ht μ L S σ1 hI
    simp only [List.mem_cons, List.not_mem_nil, or_false] at ht
    rcases ht with rfl
    · exact v4 as σ Z hsp μ L S σ1 hI

theorem d_He_neediest_0 : decode prog_4_method_3_code 0 = .ok (.iconst (-1), 1) := by decide +kernel
theorem d_He_neediest_1 : decode prog_4_method_3_code 1 = .ok (.istore_n 1, 1) := by decide +kernel
theorem d_He_neediest_2 : decode prog_4_method_3_code 2 = .ok (.iconst 0, 1) := by decide +kernel
theorem d_He_neediest_3 : decode prog_4_method_3_code 3 = .ok (.istore_n 2, 1) := by decide +kernel
theorem d_He_neediest_4 : decode prog_4_method_3_code 4 = .ok (.iconst 0, 1) := by decide +kernel
theorem d_He_neediest_5 : decode prog_4_method_3_code 5 = .ok (.istore_n 3, 1) := by decide +kernel
theorem d_He_neediest_6 : decode prog_4_method_3_code 6 = .ok (.iload_n 3, 1) := by decide +kernel
theorem d_He_neediest_7 : decode prog_4_method_3_code 7 = .ok (.aload_n 0, 1) := by decide +kernel
theorem d_He_neediest_8 : decode prog_4_method_3_code 8 = .ok (.getfield 15, 3) := by decide +kernel
theorem d_He_neediest_11 : decode prog_4_method_3_code 11 = .ok (.getfield 26, 3) := by decide +kernel
theorem d_He_neediest_14 : decode prog_4_method_3_code 14 = .ok (.if_icmp .ge 32, 3) := by decide +kernel
theorem d_He_neediest_17 : decode prog_4_method_3_code 17 = .ok (.aload_n 0, 1) := by decide +kernel
theorem d_He_neediest_18 : decode prog_4_method_3_code 18 = .ok (.aload_n 0, 1) := by decide +kernel
theorem d_He_neediest_19 : decode prog_4_method_3_code 19 = .ok (.getfield 9, 3) := by decide +kernel
theorem d_He_neediest_22 : decode prog_4_method_3_code 22 = .ok (.iload_n 3, 1) := by decide +kernel
theorem d_He_neediest_23 : decode prog_4_method_3_code 23 = .ok (.iaload, 1) := by decide +kernel
theorem d_He_neediest_24 : decode prog_4_method_3_code 24 = .ok (.invokevirtual 40, 3) := by decide +kernel
theorem d_He_neediest_27 : decode prog_4_method_3_code 27 = .ok (.istore 4, 2) := by decide +kernel
theorem d_He_neediest_29 : decode prog_4_method_3_code 29 = .ok (.iload 4, 2) := by decide +kernel
theorem d_He_neediest_31 : decode prog_4_method_3_code 31 = .ok (.iload_n 2, 1) := by decide +kernel
theorem d_He_neediest_32 : decode prog_4_method_3_code 32 = .ok (.if_icmp .le 8, 3) := by decide +kernel
theorem d_He_neediest_35 : decode prog_4_method_3_code 35 = .ok (.iload 4, 2) := by decide +kernel
theorem d_He_neediest_37 : decode prog_4_method_3_code 37 = .ok (.istore_n 2, 1) := by decide +kernel
theorem d_He_neediest_38 : decode prog_4_method_3_code 38 = .ok (.iload_n 3, 1) := by decide +kernel
theorem d_He_neediest_39 : decode prog_4_method_3_code 39 = .ok (.istore_n 1, 1) := by decide +kernel
theorem d_He_neediest_40 : decode prog_4_method_3_code 40 = .ok (.iinc 3 1, 3) := by decide +kernel
theorem d_He_neediest_43 : decode prog_4_method_3_code 43 = .ok (.goto (-37), 3) := by decide +kernel
theorem d_He_neediest_46 : decode prog_4_method_3_code 46 = .ok (.iload_n 1, 1) := by decide +kernel
theorem d_He_neediest_47 : decode prog_4_method_3_code 47 = .ok (.ireturn, 1) := by decide +kernel
def b_He_neediest_46 (c0 : ra_Sp) (I : Nat → ra_K) (Z : ra_R) : ra_K := w_il 1 <| w_ir Z
def b_He_neediest_40 (c0 : ra_Sp) (I : Nat → ra_K) (Z : ra_R) : ra_K := w_inc 3 1 <| (I 6)
def b_He_neediest_35 (c0 : ra_Sp) (I : Nat → ra_K) (Z : ra_R) : ra_K := w_il 4 <| w_is 2 <| w_il 3 <| w_is 1 <| (b_He_neediest_40 c0 I Z)
def b_He_neediest_17 (c0 : ra_Sp) (I : Nat → ra_K) (Z : ra_R) : ra_K := w_al 0 <| w_al 0 <| w_gr 9 2 <| w_il 3 <| w_ald <| w_cv c0 2 9 <| w_is 4 <| w_il 4 <| w_il 2 <| w_b2 (fun x y => x ≤ y) (b_He_neediest_40 c0 I Z) (b_He_neediest_35 c0 I Z)
def b_He_neediest_6 (c0 : ra_Sp) (I : Nat → ra_K) (Z : ra_R) : ra_K := w_il 3 <| w_al 0 <| w_gr 9 0 <| w_gi 1 8 <| w_b2 (fun x y => y ≤ x) (b_He_neediest_46 c0 I Z) (b_He_neediest_17 c0 I Z)
def b_He_neediest_0 (c0 : ra_Sp) (I : Nat → ra_K) (Z : ra_R) : ra_K := w_c (-1) <| w_is 1 <| w_c 0 <| w_is 2 <| w_c 0 <| w_is 3 <| (I 6)
theorem o_He_neediest_46 {X : ra_X} {p : Program} {l : Launch} {e : Env} {s : State} {m : MethodId} {args : Array Value} {below : List Frame} {meth : Method} {c : Code} {Z : ra_R} {c0 : ra_Sp}  (h0 : ra_MOK l X mi_He_rainsAbove c0) (F : ra_Fx X p rm_He_neediest s m args c prog_4_method_3_code 5 cn_He) (hr : meth.sig.returnType = (some .int)) (hlk : meth.locks = false) {I : Nat → ra_K} (hI : ∀ t ∈ [6], ra_At X p l e rm_He_neediest s m args below meth c 5 (MQ below (ra_Qc X Z) args s 0 0 (ra_A X)) (I t) t) : ra_At X p l e rm_He_neediest s m args below meth c 5 (MQ below (ra_Qc X Z) args s 0 0 (ra_A X)) (b_He_neediest_46 c0 I Z) 46 :=
  r_iload_n F d_He_neediest_46 rfl <| r_ireturn F hr hlk d_He_neediest_47
theorem o_He_neediest_40 {X : ra_X} {p : Program} {l : Launch} {e : Env} {s : State} {m : MethodId} {args : Array Value} {below : List Frame} {meth : Method} {c : Code} {Z : ra_R} {c0 : ra_Sp}  (h0 : ra_MOK l X mi_He_rainsAbove c0) (F : ra_Fx X p rm_He_neediest s m args c prog_4_method_3_code 5 cn_He) (hr : meth.sig.returnType = (some .int)) (hlk : meth.locks = false) {I : Nat → ra_K} (hI : ∀ t ∈ [6], ra_At X p l e rm_He_neediest s m args below meth c 5 (MQ below (ra_Qc X Z) args s 0 0 (ra_A X)) (I t) t) : ra_At X p l e rm_He_neediest s m args below meth c 5 (MQ below (ra_Qc X Z) args s 0 0 (ra_A X)) (b_He_neediest_40 c0 I Z) 40 :=
  r_iinc F d_He_neediest_40 (by decide) (by decide) <| r_goto F d_He_neediest_43 (by decide) (hI 6 (by decide))
theorem o_He_neediest_35 {X : ra_X} {p : Program} {l : Launch} {e : Env} {s : State} {m : MethodId} {args : Array Value} {below : List Frame} {meth : Method} {c : Code} {Z : ra_R} {c0 : ra_Sp}  (h0 : ra_MOK l X mi_He_rainsAbove c0) (F : ra_Fx X p rm_He_neediest s m args c prog_4_method_3_code 5 cn_He) (hr : meth.sig.returnType = (some .int)) (hlk : meth.locks = false) {I : Nat → ra_K} (hI : ∀ t ∈ [6], ra_At X p l e rm_He_neediest s m args below meth c 5 (MQ below (ra_Qc X Z) args s 0 0 (ra_A X)) (I t) t) : ra_At X p l e rm_He_neediest s m args below meth c 5 (MQ below (ra_Qc X Z) args s 0 0 (ra_A X)) (b_He_neediest_35 c0 I Z) 35 :=
  r_iload F d_He_neediest_35 <| r_istore_n F d_He_neediest_37 rfl (by decide) <| r_iload_n F d_He_neediest_38 rfl <| r_istore_n F d_He_neediest_39 rfl (by decide) <| (o_He_neediest_40 h0 F hr hlk hI)
theorem o_He_neediest_17 {X : ra_X} {p : Program} {l : Launch} {e : Env} {s : State} {m : MethodId} {args : Array Value} {below : List Frame} {meth : Method} {c : Code} {Z : ra_R} {c0 : ra_Sp}  (h0 : ra_MOK l X mi_He_rainsAbove c0) (F : ra_Fx X p rm_He_neediest s m args c prog_4_method_3_code 5 cn_He) (hr : meth.sig.returnType = (some .int)) (hlk : meth.locks = false) {I : Nat → ra_K} (hI : ∀ t ∈ [6], ra_At X p l e rm_He_neediest s m args below meth c 5 (MQ below (ra_Qc X Z) args s 0 0 (ra_A X)) (I t) t) : ra_At X p l e rm_He_neediest s m args below meth c 5 (MQ below (ra_Qc X Z) args s 0 0 (ra_A X)) (b_He_neediest_17 c0 I Z) 17 :=
  r_aload_n F d_He_neediest_17 rfl <| r_aload_n F d_He_neediest_18 rfl <| r_getR F cg_He (j := 2) (by decide) rfl fl_He_9 d_He_neediest_19 <| r_iload_n F d_He_neediest_22 rfl <| r_iaload F d_He_neediest_23 <| r_callV F h0 (co_He_rainsAbove (by decide +kernel) (by decide +kernel)) ⟨rfl, by decide +kernel⟩ ⟨rfl, by decide⟩ ml_He_40 im_He_rainsAbove se_He_rainsAbove d_He_neediest_24 <| r_istore F d_He_neediest_27 (by decide) <| r_iload F d_He_neediest_29 <| r_iload_n F d_He_neediest_31 rfl <| r_icmp_le F d_He_neediest_32 (by decide) (o_He_neediest_40 h0 F hr hlk hI) (o_He_neediest_35 h0 F hr hlk hI)
theorem o_He_neediest_6 {X : ra_X} {p : Program} {l : Launch} {e : Env} {s : State} {m : MethodId} {args : Array Value} {below : List Frame} {meth : Method} {c : Code} {Z : ra_R} {c0 : ra_Sp}  (h0 : ra_MOK l X mi_He_rainsAbove c0) (F : ra_Fx X p rm_He_neediest s m args c prog_4_method_3_code 5 cn_He) (hr : meth.sig.returnType = (some .int)) (hlk : meth.locks = false) {I : Nat → ra_K} (hI : ∀ t ∈ [6], ra_At X p l e rm_He_neediest s m args below meth c 5 (MQ below (ra_Qc X Z) args s 0 0 (ra_A X)) (I t) t) : ra_At X p l e rm_He_neediest s m args below meth c 5 (MQ below (ra_Qc X Z) args s 0 0 (ra_A X)) (b_He_neediest_6 c0 I Z) 6 :=
  r_iload_n F d_He_neediest_6 rfl <| r_aload_n F d_He_neediest_7 rfl <| r_getR F cg_He (j := 0) (by decide) rfl fl_He_15 d_He_neediest_8 <| r_getI F cg_V (j := 8) (by decide) rfl fl_He_26 d_He_neediest_11 <| r_icmp_ge F d_He_neediest_14 (by decide) (o_He_neediest_46 h0 F hr hlk hI) (o_He_neediest_17 h0 F hr hlk hI)
theorem o_He_neediest_0 {X : ra_X} {p : Program} {l : Launch} {e : Env} {s : State} {m : MethodId} {args : Array Value} {below : List Frame} {meth : Method} {c : Code} {Z : ra_R} {c0 : ra_Sp}  (h0 : ra_MOK l X mi_He_rainsAbove c0) (F : ra_Fx X p rm_He_neediest s m args c prog_4_method_3_code 5 cn_He) (hr : meth.sig.returnType = (some .int)) (hlk : meth.locks = false) {I : Nat → ra_K} (hI : ∀ t ∈ [6], ra_At X p l e rm_He_neediest s m args below meth c 5 (MQ below (ra_Qc X Z) args s 0 0 (ra_A X)) (I t) t) : ra_At X p l e rm_He_neediest s m args below meth c 5 (MQ below (ra_Qc X Z) args s 0 0 (ra_A X)) (b_He_neediest_0 c0 I Z) 0 :=
  r_iconst F d_He_neediest_0 (by decide) <| r_istore_n F d_He_neediest_1 rfl (by decide) <| r_iconst F d_He_neediest_2 (by decide) <| r_istore_n F d_He_neediest_3 rfl (by decide) <| r_iconst F d_He_neediest_4 (by decide) <| r_istore_n F d_He_neediest_5 rfl (by decide) <| (hI 6 (by decide))
theorem g_He_neediest {l : Launch} {X : ra_X} {c0 : ra_Sp}  (h0 : ra_MOK l X mi_He_rainsAbove c0) (sp : ra_Sp) (I : ra_R → List Value → ra_St → Nat → ra_M → ra_K) (ve : ∀ as σ Z, ra_c1 as = true → as.length = 1 → sp as σ Z → b_He_neediest_0 c0 (ra_I (I Z as σ)) Z (ra_pad 5 as) [] σ) (v6 : ∀ as σ Z, sp as σ Z → ∀ μ L S σ1, I Z as σ 6 μ L S σ1 → b_He_neediest_6 c0 (ra_J (I Z as σ) μ) Z L S σ1) : ra_MOK l X mi_He_neediest sp := by
  refine ra_enter (k := fun Z as σ => b_He_neediest_0 c0 (ra_I (I Z as σ)) Z) cn_He rfl (by decide +kernel) ⟨by decide +kernel, by decide +kernel⟩ (by decide +kernel) ?_ ve
  intro p e s m args below meth c Z as σ hsp F hr hlk
  refine o_He_neediest_0 h0 F hr hlk (ra_cuts (b := fun t J => if t = 6 then b_He_neediest_6 c0 J Z else fun _ _ _ => False) ?_ ?_)
  · intro t ht J hJ
    simp only [List.mem_cons, List.not_mem_nil, or_false] at ht
    rcases ht with rfl
    · exact o_He_neediest_6 h0 F hr hlk hJ
  · intro t ht μ L S σ1 hI
    simp only [List.mem_cons, List.not_mem_nil, or_false] at ht
    rcases ht with rfl
    · exact v6 as σ Z hsp μ L S σ1 hI

theorem d_He_lay_0 : decode prog_4_method_2_code 0 = .ok (.aload_n 0, 1) := by decide +kernel
theorem d_He_lay_1 : decode prog_4_method_2_code 1 = .ok (.getfield 15, 3) := by decide +kernel
theorem d_He_lay_4 : decode prog_4_method_2_code 4 = .ok (.getfield 23, 3) := by decide +kernel
theorem d_He_lay_7 : decode prog_4_method_2_code 7 = .ok (.iconst 0, 1) := by decide +kernel
theorem d_He_lay_8 : decode prog_4_method_2_code 8 = .ok (.aload_n 0, 1) := by decide +kernel
theorem d_He_lay_9 : decode prog_4_method_2_code 9 = .ok (.getfield 9, 3) := by decide +kernel
theorem d_He_lay_12 : decode prog_4_method_2_code 12 = .ok (.iconst 0, 1) := by decide +kernel
theorem d_He_lay_13 : decode prog_4_method_2_code 13 = .ok (.aload_n 0, 1) := by decide +kernel
theorem d_He_lay_14 : decode prog_4_method_2_code 14 = .ok (.getfield 15, 3) := by decide +kernel
theorem d_He_lay_17 : decode prog_4_method_2_code 17 = .ok (.getfield 26, 3) := by decide +kernel
theorem d_He_lay_20 : decode prog_4_method_2_code 20 = .ok (.invokestatic 30, 3) := by decide +kernel
theorem d_He_lay_23 : decode prog_4_method_2_code 23 = .ok (.iconst 0, 1) := by decide +kernel
theorem d_He_lay_24 : decode prog_4_method_2_code 24 = .ok (.istore_n 2, 1) := by decide +kernel
theorem d_He_lay_25 : decode prog_4_method_2_code 25 = .ok (.iload_n 2, 1) := by decide +kernel
theorem d_He_lay_26 : decode prog_4_method_2_code 26 = .ok (.iload_n 1, 1) := by decide +kernel
theorem d_He_lay_27 : decode prog_4_method_2_code 27 = .ok (.if_icmp .ge 30, 3) := by decide +kernel
theorem d_He_lay_30 : decode prog_4_method_2_code 30 = .ok (.aload_n 0, 1) := by decide +kernel
theorem d_He_lay_31 : decode prog_4_method_2_code 31 = .ok (.invokevirtual 36, 3) := by decide +kernel
theorem d_He_lay_34 : decode prog_4_method_2_code 34 = .ok (.istore_n 3, 1) := by decide +kernel
theorem d_He_lay_35 : decode prog_4_method_2_code 35 = .ok (.iload_n 3, 1) := by decide +kernel
theorem d_He_lay_36 : decode prog_4_method_2_code 36 = .ok (.iconst (-1), 1) := by decide +kernel
theorem d_He_lay_37 : decode prog_4_method_2_code 37 = .ok (.if_icmp .ne 4, 3) := by decide +kernel
theorem d_He_lay_40 : decode prog_4_method_2_code 40 = .ok (.return_, 1) := by decide +kernel
theorem d_He_lay_41 : decode prog_4_method_2_code 41 = .ok (.aload_n 0, 1) := by decide +kernel
theorem d_He_lay_42 : decode prog_4_method_2_code 42 = .ok (.getfield 9, 3) := by decide +kernel
theorem d_He_lay_45 : decode prog_4_method_2_code 45 = .ok (.iload_n 3, 1) := by decide +kernel
theorem d_He_lay_46 : decode prog_4_method_2_code 46 = .ok (.dup2, 1) := by decide +kernel
theorem d_He_lay_47 : decode prog_4_method_2_code 47 = .ok (.iaload, 1) := by decide +kernel
theorem d_He_lay_48 : decode prog_4_method_2_code 48 = .ok (.iconst 1, 1) := by decide +kernel
theorem d_He_lay_49 : decode prog_4_method_2_code 49 = .ok (.iadd, 1) := by decide +kernel
theorem d_He_lay_50 : decode prog_4_method_2_code 50 = .ok (.iastore, 1) := by decide +kernel
theorem d_He_lay_51 : decode prog_4_method_2_code 51 = .ok (.iinc 2 1, 3) := by decide +kernel
theorem d_He_lay_54 : decode prog_4_method_2_code 54 = .ok (.goto (-29), 3) := by decide +kernel
theorem d_He_lay_57 : decode prog_4_method_2_code 57 = .ok (.return_, 1) := by decide +kernel
def b_He_lay_57 (c0 : ra_Sp) (I : Nat → ra_K) (Z : ra_R) : ra_K := w_vr Z
def b_He_lay_41 (c0 : ra_Sp) (I : Nat → ra_K) (Z : ra_R) : ra_K := w_al 0 <| w_gr 9 2 <| w_il 3 <| w_dup2 <| w_ald <| w_c 1 <| w_i2 (fun x y => x + y) <| w_ast <| w_inc 2 1 <| (I 25)
def b_He_lay_40 (c0 : ra_Sp) (I : Nat → ra_K) (Z : ra_R) : ra_K := w_vr Z
def b_He_lay_30 (c0 : ra_Sp) (I : Nat → ra_K) (Z : ra_R) : ra_K := w_al 0 <| w_cv c0 1 9 <| w_is 3 <| w_il 3 <| w_c (-1) <| w_b2 (fun x y => x = y) (b_He_lay_40 c0 I Z) (b_He_lay_41 c0 I Z)
def b_He_lay_25 (c0 : ra_Sp) (I : Nat → ra_K) (Z : ra_R) : ra_K := w_il 2 <| w_il 1 <| w_b2 (fun x y => y ≤ x) (b_He_lay_57 c0 I Z) (b_He_lay_30 c0 I Z)
def b_He_lay_0 (c0 : ra_Sp) (I : Nat → ra_K) (Z : ra_R) : ra_K := w_al 0 <| w_gr 9 0 <| w_gr 1 2 <| w_c 0 <| w_al 0 <| w_gr 9 2 <| w_c 0 <| w_al 0 <| w_gr 9 0 <| w_gi 1 8 <| w_cpy <| w_c 0 <| w_is 2 <| (I 25)
theorem o_He_lay_57 {X : ra_X} {p : Program} {l : Launch} {e : Env} {s : State} {m : MethodId} {args : Array Value} {below : List Frame} {meth : Method} {c : Code} {Z : ra_R} {c0 : ra_Sp}  (h0 : ra_MOK l X mi_He_neediest c0) (F : ra_Fx X p rm_He_lay s m args c prog_4_method_2_code 4 cn_He) (hr : meth.sig.returnType = none) (hlk : meth.locks = false) {I : Nat → ra_K} (hI : ∀ t ∈ [25], ra_At X p l e rm_He_lay s m args below meth c 4 (MQ below (ra_Qc X Z) args s 0 0 (ra_A X)) (I t) t) : ra_At X p l e rm_He_lay s m args below meth c 4 (MQ below (ra_Qc X Z) args s 0 0 (ra_A X)) (b_He_lay_57 c0 I Z) 57 :=
  r_return F hr hlk d_He_lay_57
theorem o_He_lay_41 {X : ra_X} {p : Program} {l : Launch} {e : Env} {s : State} {m : MethodId} {args : Array Value} {below : List Frame} {meth : Method} {c : Code} {Z : ra_R} {c0 : ra_Sp}  (h0 : ra_MOK l X mi_He_neediest c0) (F : ra_Fx X p rm_He_lay s m args c prog_4_method_2_code 4 cn_He) (hr : meth.sig.returnType = none) (hlk : meth.locks = false) {I : Nat → ra_K} (hI : ∀ t ∈ [25], ra_At X p l e rm_He_lay s m args below meth c 4 (MQ below (ra_Qc X Z) args s 0 0 (ra_A X)) (I t) t) : ra_At X p l e rm_He_lay s m args below meth c 4 (MQ below (ra_Qc X Z) args s 0 0 (ra_A X)) (b_He_lay_41 c0 I Z) 41 :=
  r_aload_n F d_He_lay_41 rfl <| r_getR F cg_He (j := 2) (by decide) rfl fl_He_9 d_He_lay_42 <| r_iload_n F d_He_lay_45 rfl <| r_dup2 F d_He_lay_46 <| r_iaload F d_He_lay_47 <| r_iconst F d_He_lay_48 (by decide) <| r_iadd F d_He_lay_49 <| r_iastore F d_He_lay_50 <| r_iinc F d_He_lay_51 (by decide) (by decide) <| r_goto F d_He_lay_54 (by decide) (hI 25 (by decide))
theorem o_He_lay_40 {X : ra_X} {p : Program} {l : Launch} {e : Env} {s : State} {m : MethodId} {args : Array Value} {below : List Frame} {meth : Method} {c : Code} {Z : ra_R} {c0 : ra_Sp}  (h0 : ra_MOK l X mi_He_neediest c0) (F : ra_Fx X p rm_He_lay s m args c prog_4_method_2_code 4 cn_He) (hr : meth.sig.returnType = none) (hlk : meth.locks = false) {I : Nat → ra_K} (hI : ∀ t ∈ [25], ra_At X p l e rm_He_lay s m args below meth c 4 (MQ below (ra_Qc X Z) args s 0 0 (ra_A X)) (I t) t) : ra_At X p l e rm_He_lay s m args below meth c 4 (MQ below (ra_Qc X Z) args s 0 0 (ra_A X)) (b_He_lay_40 c0 I Z) 40 :=
  r_return F hr hlk d_He_lay_40
theorem o_He_lay_30 {X : ra_X} {p : Program} {l : Launch} {e : Env} {s : State} {m : MethodId} {args : Array Value} {below : List Frame} {meth : Method} {c : Code} {Z : ra_R} {c0 : ra_Sp}  (h0 : ra_MOK l X mi_He_neediest c0) (F : ra_Fx X p rm_He_lay s m args c prog_4_method_2_code 4 cn_He) (hr : meth.sig.returnType = none) (hlk : meth.locks = false) {I : Nat → ra_K} (hI : ∀ t ∈ [25], ra_At X p l e rm_He_lay s m args below meth c 4 (MQ below (ra_Qc X Z) args s 0 0 (ra_A X)) (I t) t) : ra_At X p l e rm_He_lay s m args below meth c 4 (MQ below (ra_Qc X Z) args s 0 0 (ra_A X)) (b_He_lay_30 c0 I Z) 30 :=
  r_aload_n F d_He_lay_30 rfl <| r_callV F h0 (co_He_neediest (by decide +kernel) (by decide +kernel)) ⟨rfl, by decide +kernel⟩ ⟨rfl, by decide⟩ ml_He_36 im_He_neediest se_He_neediest d_He_lay_31 <| r_istore_n F d_He_lay_34 rfl (by decide) <| r_iload_n F d_He_lay_35 rfl <| r_iconst F d_He_lay_36 (by decide) <| r_icmp_ne F d_He_lay_37 (by decide) (o_He_lay_41 h0 F hr hlk hI) (o_He_lay_40 h0 F hr hlk hI)
theorem o_He_lay_25 {X : ra_X} {p : Program} {l : Launch} {e : Env} {s : State} {m : MethodId} {args : Array Value} {below : List Frame} {meth : Method} {c : Code} {Z : ra_R} {c0 : ra_Sp}  (h0 : ra_MOK l X mi_He_neediest c0) (F : ra_Fx X p rm_He_lay s m args c prog_4_method_2_code 4 cn_He) (hr : meth.sig.returnType = none) (hlk : meth.locks = false) {I : Nat → ra_K} (hI : ∀ t ∈ [25], ra_At X p l e rm_He_lay s m args below meth c 4 (MQ below (ra_Qc X Z) args s 0 0 (ra_A X)) (I t) t) : ra_At X p l e rm_He_lay s m args below meth c 4 (MQ below (ra_Qc X Z) args s 0 0 (ra_A X)) (b_He_lay_25 c0 I Z) 25 :=
  r_iload_n F d_He_lay_25 rfl <| r_iload_n F d_He_lay_26 rfl <| r_icmp_ge F d_He_lay_27 (by decide) (o_He_lay_57 h0 F hr hlk hI) (o_He_lay_30 h0 F hr hlk hI)
theorem o_He_lay_0 {X : ra_X} {p : Program} {l : Launch} {e : Env} {s : State} {m : MethodId} {args : Array Value} {below : List Frame} {meth : Method} {c : Code} {Z : ra_R} {c0 : ra_Sp}  (h0 : ra_MOK l X mi_He_neediest c0) (F : ra_Fx X p rm_He_lay s m args c prog_4_method_2_code 4 cn_He) (hr : meth.sig.returnType = none) (hlk : meth.locks = false) {I : Nat → ra_K} (hI : ∀ t ∈ [25], ra_At X p l e rm_He_lay s m args below meth c 4 (MQ below (ra_Qc X Z) args s 0 0 (ra_A X)) (I t) t) : ra_At X p l e rm_He_lay s m args below meth c 4 (MQ below (ra_Qc X Z) args s 0 0 (ra_A X)) (b_He_lay_0 c0 I Z) 0 :=
  r_aload_n F d_He_lay_0 rfl <| r_getR F cg_He (j := 0) (by decide) rfl fl_He_15 d_He_lay_1 <| r_getR F cg_V (j := 2) (by decide) rfl fl_He_23 d_He_lay_4 <| r_iconst F d_He_lay_7 (by decide) <| r_aload_n F d_He_lay_8 rfl <| r_getR F cg_He (j := 2) (by decide) rfl fl_He_9 d_He_lay_9 <| r_iconst F d_He_lay_12 (by decide) <| r_aload_n F d_He_lay_13 rfl <| r_getR F cg_He (j := 0) (by decide) rfl fl_He_15 d_He_lay_14 <| r_getI F cg_V (j := 8) (by decide) rfl fl_He_26 d_He_lay_17 <| r_acopy F ml_He_30 jw_cpy1 jw_cpy2 jw_sys d_He_lay_20 <| r_iconst F d_He_lay_23 (by decide) <| r_istore_n F d_He_lay_24 rfl (by decide) <| (hI 25 (by decide))
theorem g_He_lay {l : Launch} {X : ra_X} {c0 : ra_Sp}  (h0 : ra_MOK l X mi_He_neediest c0) (sp : ra_Sp) (I : ra_R → List Value → ra_St → Nat → ra_M → ra_K) (ve : ∀ as σ Z, ra_c1 as = true → as.length = 2 → sp as σ Z → b_He_lay_0 c0 (ra_I (I Z as σ)) Z (ra_pad 4 as) [] σ) (v25 : ∀ as σ Z, sp as σ Z → ∀ μ L S σ1, I Z as σ 25 μ L S σ1 → b_He_lay_25 c0 (ra_J (I Z as σ) μ) Z L S σ1) : ra_MOK l X mi_He_lay sp := by
  refine ra_enter (k := fun Z as σ => b_He_lay_0 c0 (ra_I (I Z as σ)) Z) cn_He rfl (by decide +kernel) ⟨by decide +kernel, by decide +kernel⟩ (by decide +kernel) ?_ ve
  intro p e s m args below meth c Z as σ hsp F hr hlk
  refine o_He_lay_0 h0 F hr hlk (ra_cuts (b := fun t J => if t = 25 then b_He_lay_25 c0 J Z else fun _ _ _ => False) ?_ ?_)
  · intro t ht J hJ
    simp only [List.mem_cons, List.not_mem_nil, or_false] at ht
    rcases ht with rfl
    · exact o_He_lay_25 h0 F hr hlk hJ
  · intro t ht μ L S σ1 hI
    simp only [List.mem_cons, List.not_mem_nil, or_false] at ht
    rcases ht with rfl
    · exact v25 as σ Z hsp μ L S σ1 hI

theorem d_He_harmOfAll_0 : decode prog_4_method_5_code 0 = .ok (.iconst 0, 1) := by decide +kernel
theorem d_He_harmOfAll_1 : decode prog_4_method_5_code 1 = .ok (.istore_n 1, 1) := by decide +kernel
theorem d_He_harmOfAll_2 : decode prog_4_method_5_code 2 = .ok (.iconst 0, 1) := by decide +kernel
theorem d_He_harmOfAll_3 : decode prog_4_method_5_code 3 = .ok (.istore_n 2, 1) := by decide +kernel
theorem d_He_harmOfAll_4 : decode prog_4_method_5_code 4 = .ok (.iload_n 2, 1) := by decide +kernel
theorem d_He_harmOfAll_5 : decode prog_4_method_5_code 5 = .ok (.aload_n 0, 1) := by decide +kernel
theorem d_He_harmOfAll_6 : decode prog_4_method_5_code 6 = .ok (.getfield 15, 3) := by decide +kernel
theorem d_He_harmOfAll_9 : decode prog_4_method_5_code 9 = .ok (.getfield 26, 3) := by decide +kernel
theorem d_He_harmOfAll_12 : decode prog_4_method_5_code 12 = .ok (.if_icmp .ge 51, 3) := by decide +kernel
theorem d_He_harmOfAll_15 : decode prog_4_method_5_code 15 = .ok (.iconst 0, 1) := by decide +kernel
theorem d_He_harmOfAll_16 : decode prog_4_method_5_code 16 = .ok (.istore_n 3, 1) := by decide +kernel
theorem d_He_harmOfAll_17 : decode prog_4_method_5_code 17 = .ok (.iload_n 3, 1) := by decide +kernel
theorem d_He_harmOfAll_18 : decode prog_4_method_5_code 18 = .ok (.aload_n 0, 1) := by decide +kernel
theorem d_He_harmOfAll_19 : decode prog_4_method_5_code 19 = .ok (.getfield 19, 3) := by decide +kernel
theorem d_He_harmOfAll_22 : decode prog_4_method_5_code 22 = .ok (.getfield 44, 3) := by decide +kernel
theorem d_He_harmOfAll_25 : decode prog_4_method_5_code 25 = .ok (.if_icmp .ge 32, 3) := by decide +kernel
theorem d_He_harmOfAll_28 : decode prog_4_method_5_code 28 = .ok (.iload_n 1, 1) := by decide +kernel
theorem d_He_harmOfAll_29 : decode prog_4_method_5_code 29 = .ok (.iconst 0, 1) := by decide +kernel
theorem d_He_harmOfAll_30 : decode prog_4_method_5_code 30 = .ok (.aload_n 0, 1) := by decide +kernel
theorem d_He_harmOfAll_31 : decode prog_4_method_5_code 31 = .ok (.getfield 19, 3) := by decide +kernel
theorem d_He_harmOfAll_34 : decode prog_4_method_5_code 34 = .ok (.getfield 47, 3) := by decide +kernel
theorem d_He_harmOfAll_37 : decode prog_4_method_5_code 37 = .ok (.iload_n 3, 1) := by decide +kernel
theorem d_He_harmOfAll_38 : decode prog_4_method_5_code 38 = .ok (.iaload, 1) := by decide +kernel
theorem d_He_harmOfAll_39 : decode prog_4_method_5_code 39 = .ok (.aload_n 0, 1) := by decide +kernel
theorem d_He_harmOfAll_40 : decode prog_4_method_5_code 40 = .ok (.getfield 9, 3) := by decide +kernel
theorem d_He_harmOfAll_43 : decode prog_4_method_5_code 43 = .ok (.iload_n 2, 1) := by decide +kernel
theorem d_He_harmOfAll_44 : decode prog_4_method_5_code 44 = .ok (.iaload, 1) := by decide +kernel
theorem d_He_harmOfAll_45 : decode prog_4_method_5_code 45 = .ok (.isub, 1) := by decide +kernel
theorem d_He_harmOfAll_46 : decode prog_4_method_5_code 46 = .ok (.invokestatic 50, 3) := by decide +kernel
theorem d_He_harmOfAll_49 : decode prog_4_method_5_code 49 = .ok (.iadd, 1) := by decide +kernel
theorem d_He_harmOfAll_50 : decode prog_4_method_5_code 50 = .ok (.istore_n 1, 1) := by decide +kernel
theorem d_He_harmOfAll_51 : decode prog_4_method_5_code 51 = .ok (.iinc 3 1, 3) := by decide +kernel
theorem d_He_harmOfAll_54 : decode prog_4_method_5_code 54 = .ok (.goto (-37), 3) := by decide +kernel
theorem d_He_harmOfAll_57 : decode prog_4_method_5_code 57 = .ok (.iinc 2 1, 3) := by decide +kernel
theorem d_He_harmOfAll_60 : decode prog_4_method_5_code 60 = .ok (.goto (-56), 3) := by decide +kernel
theorem d_He_harmOfAll_63 : decode prog_4_method_5_code 63 = .ok (.iload_n 1, 1) := by decide +kernel
theorem d_He_harmOfAll_64 : decode prog_4_method_5_code 64 = .ok (.ireturn, 1) := by decide +kernel
def b_He_harmOfAll_63 (I : Nat → ra_K) (Z : ra_R) : ra_K := w_il 1 <| w_ir Z
def b_He_harmOfAll_57 (I : Nat → ra_K) (Z : ra_R) : ra_K := w_inc 2 1 <| (I 4)
def b_He_harmOfAll_28 (I : Nat → ra_K) (Z : ra_R) : ra_K := w_il 1 <| w_c 0 <| w_al 0 <| w_gr 9 1 <| w_gr 3 0 <| w_il 3 <| w_ald <| w_al 0 <| w_gr 9 2 <| w_il 2 <| w_ald <| w_i2 (fun x y => x - y) <| w_max <| w_i2 (fun x y => x + y) <| w_is 1 <| w_inc 3 1 <| (I 17)
def b_He_harmOfAll_17 (I : Nat → ra_K) (Z : ra_R) : ra_K := w_il 3 <| w_al 0 <| w_gr 9 1 <| w_gi 3 1 <| w_b2 (fun x y => y ≤ x) (b_He_harmOfAll_57 I Z) (b_He_harmOfAll_28 I Z)
def b_He_harmOfAll_15 (I : Nat → ra_K) (Z : ra_R) : ra_K := w_c 0 <| w_is 3 <| (I 17)
def b_He_harmOfAll_4 (I : Nat → ra_K) (Z : ra_R) : ra_K := w_il 2 <| w_al 0 <| w_gr 9 0 <| w_gi 1 8 <| w_b2 (fun x y => y ≤ x) (b_He_harmOfAll_63 I Z) (b_He_harmOfAll_15 I Z)
def b_He_harmOfAll_0 (I : Nat → ra_K) (Z : ra_R) : ra_K := w_c 0 <| w_is 1 <| w_c 0 <| w_is 2 <| (I 4)
theorem o_He_harmOfAll_63 {X : ra_X} {p : Program} {l : Launch} {e : Env} {s : State} {m : MethodId} {args : Array Value} {below : List Frame} {meth : Method} {c : Code} {Z : ra_R}  (F : ra_Fx X p rm_He_harmOfAll s m args c prog_4_method_5_code 4 cn_He) (hr : meth.sig.returnType = (some .int)) (hlk : meth.locks = false) {I : Nat → ra_K} (hI : ∀ t ∈ [4, 17], ra_At X p l e rm_He_harmOfAll s m args below meth c 4 (MQ below (ra_Qc X Z) args s 0 0 (ra_A X)) (I t) t) : ra_At X p l e rm_He_harmOfAll s m args below meth c 4 (MQ below (ra_Qc X Z) args s 0 0 (ra_A X)) (b_He_harmOfAll_63 I Z) 63 :=
  r_iload_n F d_He_harmOfAll_63 rfl <| r_ireturn F hr hlk d_He_harmOfAll_64
theorem o_He_harmOfAll_57 {X : ra_X} {p : Program} {l : Launch} {e : Env} {s : State} {m : MethodId} {args : Array Value} {below : List Frame} {meth : Method} {c : Code} {Z : ra_R}  (F : ra_Fx X p rm_He_harmOfAll s m args c prog_4_method_5_code 4 cn_He) (hr : meth.sig.returnType = (some .int)) (hlk : meth.locks = false) {I : Nat → ra_K} (hI : ∀ t ∈ [4, 17], ra_At X p l e rm_He_harmOfAll s m args below meth c 4 (MQ below (ra_Qc X Z) args s 0 0 (ra_A X)) (I t) t) : ra_At X p l e rm_He_harmOfAll s m args below meth c 4 (MQ below (ra_Qc X Z) args s 0 0 (ra_A X)) (b_He_harmOfAll_57 I Z) 57 :=
  r_iinc F d_He_harmOfAll_57 (by decide) (by decide) <| r_goto F d_He_harmOfAll_60 (by decide) (hI 4 (by decide))
theorem o_He_harmOfAll_28 {X : ra_X} {p : Program} {l : Launch} {e : Env} {s : State} {m : MethodId} {args : Array Value} {below : List Frame} {meth : Method} {c : Code} {Z : ra_R}  (F : ra_Fx X p rm_He_harmOfAll s m args c prog_4_method_5_code 4 cn_He) (hr : meth.sig.returnType = (some .int)) (hlk : meth.locks = false) {I : Nat → ra_K} (hI : ∀ t ∈ [4, 17], ra_At X p l e rm_He_harmOfAll s m args below meth c 4 (MQ below (ra_Qc X Z) args s 0 0 (ra_A X)) (I t) t) : ra_At X p l e rm_He_harmOfAll s m args below meth c 4 (MQ below (ra_Qc X Z) args s 0 0 (ra_A X)) (b_He_harmOfAll_28 I Z) 28 :=
  r_iload_n F d_He_harmOfAll_28 rfl <| r_iconst F d_He_harmOfAll_29 (by decide) <| r_aload_n F d_He_harmOfAll_30 rfl <| r_getR F cg_He (j := 1) (by decide) rfl fl_He_19 d_He_harmOfAll_31 <| r_getR F cg_Wt (j := 0) (by decide) rfl fl_He_47 d_He_harmOfAll_34 <| r_iload_n F d_He_harmOfAll_37 rfl <| r_iaload F d_He_harmOfAll_38 <| r_aload_n F d_He_harmOfAll_39 rfl <| r_getR F cg_He (j := 2) (by decide) rfl fl_He_9 d_He_harmOfAll_40 <| r_iload_n F d_He_harmOfAll_43 rfl <| r_iaload F d_He_harmOfAll_44 <| r_isub F d_He_harmOfAll_45 <| r_max F ml_He_50 jw_max1 jw_math jw_max3 d_He_harmOfAll_46 <| r_iadd F d_He_harmOfAll_49 <| r_istore_n F d_He_harmOfAll_50 rfl (by decide) <| r_iinc F d_He_harmOfAll_51 (by decide) (by decide) <| r_goto F d_He_harmOfAll_54 (by decide) (hI 17 (by decide))
theorem o_He_harmOfAll_17 {X : ra_X} {p : Program} {l : Launch} {e : Env} {s : State} {m : MethodId} {args : Array Value} {below : List Frame} {meth : Method} {c : Code} {Z : ra_R}  (F : ra_Fx X p rm_He_harmOfAll s m args c prog_4_method_5_code 4 cn_He) (hr : meth.sig.returnType = (some .int)) (hlk : meth.locks = false) {I : Nat → ra_K} (hI : ∀ t ∈ [4, 17], ra_At X p l e rm_He_harmOfAll s m args below meth c 4 (MQ below (ra_Qc X Z) args s 0 0 (ra_A X)) (I t) t) : ra_At X p l e rm_He_harmOfAll s m args below meth c 4 (MQ below (ra_Qc X Z) args s 0 0 (ra_A X)) (b_He_harmOfAll_17 I Z) 17 :=
  r_iload_n F d_He_harmOfAll_17 rfl <| r_aload_n F d_He_harmOfAll_18 rfl <| r_getR F cg_He (j := 1) (by decide) rfl fl_He_19 d_He_harmOfAll_19 <| r_getI F cg_Wt (j := 1) (by decide) rfl fl_He_44 d_He_harmOfAll_22 <| r_icmp_ge F d_He_harmOfAll_25 (by decide) (o_He_harmOfAll_57 F hr hlk hI) (o_He_harmOfAll_28 F hr hlk hI)
theorem o_He_harmOfAll_15 {X : ra_X} {p : Program} {l : Launch} {e : Env} {s : State} {m : MethodId} {args : Array Value} {below : List Frame} {meth : Method} {c : Code} {Z : ra_R}  (F : ra_Fx X p rm_He_harmOfAll s m args c prog_4_method_5_code 4 cn_He) (hr : meth.sig.returnType = (some .int)) (hlk : meth.locks = false) {I : Nat → ra_K} (hI : ∀ t ∈ [4, 17], ra_At X p l e rm_He_harmOfAll s m args below meth c 4 (MQ below (ra_Qc X Z) args s 0 0 (ra_A X)) (I t) t) : ra_At X p l e rm_He_harmOfAll s m args below meth c 4 (MQ below (ra_Qc X Z) args s 0 0 (ra_A X)) (b_He_harmOfAll_15 I Z) 15 :=
  r_iconst F d_He_harmOfAll_15 (by decide) <| r_istore_n F d_He_harmOfAll_16 rfl (by decide) <| (hI 17 (by decide))
theorem o_He_harmOfAll_4 {X : ra_X} {p : Program} {l : Launch} {e : Env} {s : State} {m : MethodId} {args : Array Value} {below : List Frame} {meth : Method} {c : Code} {Z : ra_R}  (F : ra_Fx X p rm_He_harmOfAll s m args c prog_4_method_5_code 4 cn_He) (hr : meth.sig.returnType = (some .int)) (hlk : meth.locks = false) {I : Nat → ra_K} (hI : ∀ t ∈ [4, 17], ra_At X p l e rm_He_harmOfAll s m args below meth c 4 (MQ below (ra_Qc X Z) args s 0 0 (ra_A X)) (I t) t) : ra_At X p l e rm_He_harmOfAll s m args below meth c 4 (MQ below (ra_Qc X Z) args s 0 0 (ra_A X)) (b_He_harmOfAll_4 I Z) 4 :=
  r_iload_n F d_He_harmOfAll_4 rfl <| r_aload_n F d_He_harmOfAll_5 rfl <| r_getR F cg_He (j := 0) (by decide) rfl fl_He_15 d_He_harmOfAll_6 <| r_getI F cg_V (j := 8) (by decide) rfl fl_He_26 d_He_harmOfAll_9 <| r_icmp_ge F d_He_harmOfAll_12 (by decide) (o_He_harmOfAll_63 F hr hlk hI) (o_He_harmOfAll_15 F hr hlk hI)
theorem o_He_harmOfAll_0 {X : ra_X} {p : Program} {l : Launch} {e : Env} {s : State} {m : MethodId} {args : Array Value} {below : List Frame} {meth : Method} {c : Code} {Z : ra_R}  (F : ra_Fx X p rm_He_harmOfAll s m args c prog_4_method_5_code 4 cn_He) (hr : meth.sig.returnType = (some .int)) (hlk : meth.locks = false) {I : Nat → ra_K} (hI : ∀ t ∈ [4, 17], ra_At X p l e rm_He_harmOfAll s m args below meth c 4 (MQ below (ra_Qc X Z) args s 0 0 (ra_A X)) (I t) t) : ra_At X p l e rm_He_harmOfAll s m args below meth c 4 (MQ below (ra_Qc X Z) args s 0 0 (ra_A X)) (b_He_harmOfAll_0 I Z) 0 :=
  r_iconst F d_He_harmOfAll_0 (by decide) <| r_istore_n F d_He_harmOfAll_1 rfl (by decide) <| r_iconst F d_He_harmOfAll_2 (by decide) <| r_istore_n F d_He_harmOfAll_3 rfl (by decide) <| (hI 4 (by decide))
theorem g_He_harmOfAll {l : Launch} {X : ra_X}  (sp : ra_Sp) (I : ra_R → List Value → ra_St → Nat → ra_M → ra_K) (ve : ∀ as σ Z, ra_c1 as = true → as.length = 1 → sp as σ Z → b_He_harmOfAll_0 (ra_I (I Z as σ)) Z (ra_pad 4 as) [] σ) (v4 : ∀ as σ Z, sp as σ Z → ∀ μ L S σ1, I Z as σ 4 μ L S σ1 → b_He_harmOfAll_4 (ra_J (I Z as σ) μ) Z L S σ1) (v17 : ∀ as σ Z, sp as σ Z → ∀ μ L S σ1, I Z as σ 17 μ L S σ1 → b_He_harmOfAll_17 (ra_J (I Z as σ) μ) Z L S σ1) : ra_MOK l X mi_He_harmOfAll sp := by
  refine ra_enter (k := fun Z as σ => b_He_harmOfAll_0 (ra_I (I Z as σ)) Z) cn_He rfl (by decide +kernel) ⟨by decide +kernel, by decide +kernel⟩ (by decide +kernel) ?_ ve
  intro p e s m args below meth c Z as σ hsp F hr hlk
  refine o_He_harmOfAll_0 F hr hlk (ra_cuts (b := fun t J => if t = 4 then b_He_harmOfAll_4 J Z else if t = 17 then b_He_harmOfAll_17 J Z else fun _ _ _ => False) ?_ ?_)
  · intro t ht J hJ
    simp only [List.mem_cons, List.not_mem_nil, or_false] at ht
    rcases ht with rfl | rfl
    · exact o_He_harmOfAll_4 F hr hlk hJ
    · exact o_He_harmOfAll_17 F hr hlk hJ
  · intro t ht μ L S σ1 hI
    simp only [List.mem_cons, List.not_mem_nil, or_false] at ht
    rcases ht with rfl | rfl
    · exact v4 as σ Z hsp μ L S σ1 hI
    · exact v17 as σ Z hsp μ L S σ1 hI

theorem d_R_hands_0 : decode prog_1_method_25_code 0 = .ok (.iload_n 1, 1) := by decide +kernel
theorem d_R_hands_1 : decode prog_1_method_25_code 1 = .ok (.iconst 0, 1) := by decide +kernel
theorem d_R_hands_2 : decode prog_1_method_25_code 2 = .ok (.bipush 72, 2) := by decide +kernel
theorem d_R_hands_4 : decode prog_1_method_25_code 4 = .ok (.invokestatic 73, 3) := by decide +kernel
theorem d_R_hands_7 : decode prog_1_method_25_code 7 = .ok (.ifCond .ne 16, 3) := by decide +kernel
theorem d_R_hands_10 : decode prog_1_method_25_code 10 = .ok (.iload_n 2, 1) := by decide +kernel
theorem d_R_hands_11 : decode prog_1_method_25_code 11 = .ok (.iconst (-1), 1) := by decide +kernel
theorem d_R_hands_12 : decode prog_1_method_25_code 12 = .ok (.if_icmp .eq 14, 3) := by decide +kernel
theorem d_R_hands_15 : decode prog_1_method_25_code 15 = .ok (.aload_n 0, 1) := by decide +kernel
theorem d_R_hands_16 : decode prog_1_method_25_code 16 = .ok (.iload_n 2, 1) := by decide +kernel
theorem d_R_hands_17 : decode prog_1_method_25_code 17 = .ok (.invokevirtual 96, 3) := by decide +kernel
theorem d_R_hands_20 : decode prog_1_method_25_code 20 = .ok (.ifCond .eq 6, 3) := by decide +kernel
theorem d_R_hands_23 : decode prog_1_method_25_code 23 = .ok (.bipush (-2), 2) := by decide +kernel
theorem d_R_hands_25 : decode prog_1_method_25_code 25 = .ok (.ireturn, 1) := by decide +kernel
theorem d_R_hands_26 : decode prog_1_method_25_code 26 = .ok (.aload_n 0, 1) := by decide +kernel
theorem d_R_hands_27 : decode prog_1_method_25_code 27 = .ok (.getfield 58, 3) := by decide +kernel
theorem d_R_hands_30 : decode prog_1_method_25_code 30 = .ok (.iload_n 1, 1) := by decide +kernel
theorem d_R_hands_31 : decode prog_1_method_25_code 31 = .ok (.invokevirtual 230, 3) := by decide +kernel
theorem d_R_hands_34 : decode prog_1_method_25_code 34 = .ok (.iload_n 2, 1) := by decide +kernel
theorem d_R_hands_35 : decode prog_1_method_25_code 35 = .ok (.iconst (-1), 1) := by decide +kernel
theorem d_R_hands_36 : decode prog_1_method_25_code 36 = .ok (.if_icmp .ne 13, 3) := by decide +kernel
theorem d_R_hands_39 : decode prog_1_method_25_code 39 = .ok (.aload_n 0, 1) := by decide +kernel
theorem d_R_hands_40 : decode prog_1_method_25_code 40 = .ok (.getfield 58, 3) := by decide +kernel
theorem d_R_hands_43 : decode prog_1_method_25_code 43 = .ok (.invokevirtual 234, 3) := by decide +kernel
theorem d_R_hands_46 : decode prog_1_method_25_code 46 = .ok (.goto 12, 3) := by decide +kernel
theorem d_R_hands_49 : decode prog_1_method_25_code 49 = .ok (.aload_n 0, 1) := by decide +kernel
theorem d_R_hands_50 : decode prog_1_method_25_code 50 = .ok (.getfield 58, 3) := by decide +kernel
theorem d_R_hands_53 : decode prog_1_method_25_code 53 = .ok (.getfield 237, 3) := by decide +kernel
theorem d_R_hands_56 : decode prog_1_method_25_code 56 = .ok (.iload_n 2, 1) := by decide +kernel
theorem d_R_hands_57 : decode prog_1_method_25_code 57 = .ok (.iaload, 1) := by decide +kernel
theorem d_R_hands_58 : decode prog_1_method_25_code 58 = .ok (.ireturn, 1) := by decide +kernel
def b_R_hands_58 (c0 c1 c2 c3 : ra_Sp) (Z : ra_R) : ra_K := w_ir Z
def b_R_hands_49 (c0 c1 c2 c3 : ra_Sp) (Z : ra_R) : ra_K := w_al 0 <| w_gr 0 6 <| w_gr 9 2 <| w_il 2 <| w_ald <| (b_R_hands_58 c0 c1 c2 c3 Z)
def b_R_hands_39 (c0 c1 c2 c3 : ra_Sp) (Z : ra_R) : ra_K := w_al 0 <| w_gr 0 6 <| w_cv c3 1 9 <| (b_R_hands_58 c0 c1 c2 c3 Z)
def b_R_hands_26 (c0 c1 c2 c3 : ra_Sp) (Z : ra_R) : ra_K := w_al 0 <| w_gr 0 6 <| w_il 1 <| w_cv c2 2 9 <| w_il 2 <| w_c (-1) <| w_b2 (fun x y => x = y) (b_R_hands_39 c0 c1 c2 c3 Z) (b_R_hands_49 c0 c1 c2 c3 Z)
def b_R_hands_23 (c0 c1 c2 c3 : ra_Sp) (Z : ra_R) : ra_K := w_c (-2) <| w_ir Z
def b_R_hands_15 (c0 c1 c2 c3 : ra_Sp) (Z : ra_R) : ra_K := w_al 0 <| w_il 2 <| w_cv c1 2 0 <| w_b1 (fun x => x = 0) (b_R_hands_26 c0 c1 c2 c3 Z) (b_R_hands_23 c0 c1 c2 c3 Z)
def b_R_hands_10 (c0 c1 c2 c3 : ra_Sp) (Z : ra_R) : ra_K := w_il 2 <| w_c (-1) <| w_b2 (fun x y => x = y) (b_R_hands_26 c0 c1 c2 c3 Z) (b_R_hands_15 c0 c1 c2 c3 Z)
def b_R_hands_0 (c0 c1 c2 c3 : ra_Sp) (Z : ra_R) : ra_K := w_il 1 <| w_c 0 <| w_c 72 <| w_cs c0 3 <| w_b1 (fun x => x = 0) (b_R_hands_10 c0 c1 c2 c3 Z) (b_R_hands_23 c0 c1 c2 c3 Z)
theorem o_R_hands_58 {X : ra_X} {p : Program} {l : Launch} {e : Env} {s : State} {m : MethodId} {args : Array Value} {below : List Frame} {meth : Method} {c : Code} {Z : ra_R} {c0 c1 c2 c3 : ra_Sp}  (h0 : ra_MOK l X mi_R_isOutside c0) (h1 : ra_MOK l X mi_R_isNoHouse c1) (h2 : ra_MOK l X mi_He_lay c2) (h3 : ra_MOK l X mi_He_harmOfAll c3) (F : ra_Fx X p rm_R_hands s m args c prog_1_method_25_code 3 cn_R) (hr : meth.sig.returnType = (some .int)) (hlk : meth.locks = false) : ra_At X p l e rm_R_hands s m args below meth c 3 (MQ below (ra_Qc X Z) args s 0 0 (ra_A X)) (b_R_hands_58 c0 c1 c2 c3 Z) 58 :=
  r_ireturn F hr hlk d_R_hands_58
theorem o_R_hands_49 {X : ra_X} {p : Program} {l : Launch} {e : Env} {s : State} {m : MethodId} {args : Array Value} {below : List Frame} {meth : Method} {c : Code} {Z : ra_R} {c0 c1 c2 c3 : ra_Sp}  (h0 : ra_MOK l X mi_R_isOutside c0) (h1 : ra_MOK l X mi_R_isNoHouse c1) (h2 : ra_MOK l X mi_He_lay c2) (h3 : ra_MOK l X mi_He_harmOfAll c3) (F : ra_Fx X p rm_R_hands s m args c prog_1_method_25_code 3 cn_R) (hr : meth.sig.returnType = (some .int)) (hlk : meth.locks = false) : ra_At X p l e rm_R_hands s m args below meth c 3 (MQ below (ra_Qc X Z) args s 0 0 (ra_A X)) (b_R_hands_49 c0 c1 c2 c3 Z) 49 :=
  r_aload_n F d_R_hands_49 rfl <| r_getR F cg_R (j := 6) (by decide) rfl fl_R_58 d_R_hands_50 <| r_getR F cg_He (j := 2) (by decide) rfl fl_R_237 d_R_hands_53 <| r_iload_n F d_R_hands_56 rfl <| r_iaload F d_R_hands_57 <| (o_R_hands_58 h0 h1 h2 h3 F hr hlk)
theorem o_R_hands_39 {X : ra_X} {p : Program} {l : Launch} {e : Env} {s : State} {m : MethodId} {args : Array Value} {below : List Frame} {meth : Method} {c : Code} {Z : ra_R} {c0 c1 c2 c3 : ra_Sp}  (h0 : ra_MOK l X mi_R_isOutside c0) (h1 : ra_MOK l X mi_R_isNoHouse c1) (h2 : ra_MOK l X mi_He_lay c2) (h3 : ra_MOK l X mi_He_harmOfAll c3) (F : ra_Fx X p rm_R_hands s m args c prog_1_method_25_code 3 cn_R) (hr : meth.sig.returnType = (some .int)) (hlk : meth.locks = false) : ra_At X p l e rm_R_hands s m args below meth c 3 (MQ below (ra_Qc X Z) args s 0 0 (ra_A X)) (b_R_hands_39 c0 c1 c2 c3 Z) 39 :=
  r_aload_n F d_R_hands_39 rfl <| r_getR F cg_R (j := 6) (by decide) rfl fl_R_58 d_R_hands_40 <| r_callV F h3 (co_He_harmOfAll (by decide +kernel) (by decide +kernel)) ⟨rfl, by decide +kernel⟩ ⟨rfl, by decide⟩ ml_R_234 im_He_harmOfAll se_He_harmOfAll d_R_hands_43 <| r_goto F d_R_hands_46 (by decide) (o_R_hands_58 h0 h1 h2 h3 F hr hlk)
theorem o_R_hands_26 {X : ra_X} {p : Program} {l : Launch} {e : Env} {s : State} {m : MethodId} {args : Array Value} {below : List Frame} {meth : Method} {c : Code} {Z : ra_R} {c0 c1 c2 c3 : ra_Sp}  (h0 : ra_MOK l X mi_R_isOutside c0) (h1 : ra_MOK l X mi_R_isNoHouse c1) (h2 : ra_MOK l X mi_He_lay c2) (h3 : ra_MOK l X mi_He_harmOfAll c3) (F : ra_Fx X p rm_R_hands s m args c prog_1_method_25_code 3 cn_R) (hr : meth.sig.returnType = (some .int)) (hlk : meth.locks = false) : ra_At X p l e rm_R_hands s m args below meth c 3 (MQ below (ra_Qc X Z) args s 0 0 (ra_A X)) (b_R_hands_26 c0 c1 c2 c3 Z) 26 :=
  r_aload_n F d_R_hands_26 rfl <| r_getR F cg_R (j := 6) (by decide) rfl fl_R_58 d_R_hands_27 <| r_iload_n F d_R_hands_30 rfl <| r_callV F h2 (co_He_lay (by decide +kernel) (by decide +kernel)) ⟨rfl, by decide +kernel⟩ ⟨rfl, by decide⟩ ml_R_230 im_He_lay se_He_lay d_R_hands_31 <| r_iload_n F d_R_hands_34 rfl <| r_iconst F d_R_hands_35 (by decide) <| r_icmp_ne F d_R_hands_36 (by decide) (o_R_hands_49 h0 h1 h2 h3 F hr hlk) (o_R_hands_39 h0 h1 h2 h3 F hr hlk)
theorem o_R_hands_23 {X : ra_X} {p : Program} {l : Launch} {e : Env} {s : State} {m : MethodId} {args : Array Value} {below : List Frame} {meth : Method} {c : Code} {Z : ra_R} {c0 c1 c2 c3 : ra_Sp}  (h0 : ra_MOK l X mi_R_isOutside c0) (h1 : ra_MOK l X mi_R_isNoHouse c1) (h2 : ra_MOK l X mi_He_lay c2) (h3 : ra_MOK l X mi_He_harmOfAll c3) (F : ra_Fx X p rm_R_hands s m args c prog_1_method_25_code 3 cn_R) (hr : meth.sig.returnType = (some .int)) (hlk : meth.locks = false) : ra_At X p l e rm_R_hands s m args below meth c 3 (MQ below (ra_Qc X Z) args s 0 0 (ra_A X)) (b_R_hands_23 c0 c1 c2 c3 Z) 23 :=
  r_bipush F d_R_hands_23 (by decide) <| r_ireturn F hr hlk d_R_hands_25
theorem o_R_hands_15 {X : ra_X} {p : Program} {l : Launch} {e : Env} {s : State} {m : MethodId} {args : Array Value} {below : List Frame} {meth : Method} {c : Code} {Z : ra_R} {c0 c1 c2 c3 : ra_Sp}  (h0 : ra_MOK l X mi_R_isOutside c0) (h1 : ra_MOK l X mi_R_isNoHouse c1) (h2 : ra_MOK l X mi_He_lay c2) (h3 : ra_MOK l X mi_He_harmOfAll c3) (F : ra_Fx X p rm_R_hands s m args c prog_1_method_25_code 3 cn_R) (hr : meth.sig.returnType = (some .int)) (hlk : meth.locks = false) : ra_At X p l e rm_R_hands s m args below meth c 3 (MQ below (ra_Qc X Z) args s 0 0 (ra_A X)) (b_R_hands_15 c0 c1 c2 c3 Z) 15 :=
  r_aload_n F d_R_hands_15 rfl <| r_iload_n F d_R_hands_16 rfl <| r_callV F h1 (co_R_isNoHouse (by decide +kernel) (by decide +kernel)) ⟨rfl, by decide +kernel⟩ ⟨rfl, by decide⟩ ml_R_96 im_R_isNoHouse se_R_isNoHouse d_R_hands_17 <| r_if_eq F d_R_hands_20 (by decide) (o_R_hands_26 h0 h1 h2 h3 F hr hlk) (o_R_hands_23 h0 h1 h2 h3 F hr hlk)
theorem o_R_hands_10 {X : ra_X} {p : Program} {l : Launch} {e : Env} {s : State} {m : MethodId} {args : Array Value} {below : List Frame} {meth : Method} {c : Code} {Z : ra_R} {c0 c1 c2 c3 : ra_Sp}  (h0 : ra_MOK l X mi_R_isOutside c0) (h1 : ra_MOK l X mi_R_isNoHouse c1) (h2 : ra_MOK l X mi_He_lay c2) (h3 : ra_MOK l X mi_He_harmOfAll c3) (F : ra_Fx X p rm_R_hands s m args c prog_1_method_25_code 3 cn_R) (hr : meth.sig.returnType = (some .int)) (hlk : meth.locks = false) : ra_At X p l e rm_R_hands s m args below meth c 3 (MQ below (ra_Qc X Z) args s 0 0 (ra_A X)) (b_R_hands_10 c0 c1 c2 c3 Z) 10 :=
  r_iload_n F d_R_hands_10 rfl <| r_iconst F d_R_hands_11 (by decide) <| r_icmp_eq F d_R_hands_12 (by decide) (o_R_hands_26 h0 h1 h2 h3 F hr hlk) (o_R_hands_15 h0 h1 h2 h3 F hr hlk)
theorem o_R_hands_0 {X : ra_X} {p : Program} {l : Launch} {e : Env} {s : State} {m : MethodId} {args : Array Value} {below : List Frame} {meth : Method} {c : Code} {Z : ra_R} {c0 c1 c2 c3 : ra_Sp}  (h0 : ra_MOK l X mi_R_isOutside c0) (h1 : ra_MOK l X mi_R_isNoHouse c1) (h2 : ra_MOK l X mi_He_lay c2) (h3 : ra_MOK l X mi_He_harmOfAll c3) (F : ra_Fx X p rm_R_hands s m args c prog_1_method_25_code 3 cn_R) (hr : meth.sig.returnType = (some .int)) (hlk : meth.locks = false) : ra_At X p l e rm_R_hands s m args below meth c 3 (MQ below (ra_Qc X Z) args s 0 0 (ra_A X)) (b_R_hands_0 c0 c1 c2 c3 Z) 0 :=
  r_iload_n F d_R_hands_0 rfl <| r_iconst F d_R_hands_1 (by decide) <| r_bipush F d_R_hands_2 (by decide) <| r_callS F h0 (co_R_isOutside (by decide +kernel) (by decide +kernel)) ⟨rfl, by decide +kernel⟩ ml_R_73 st_R_isOutside d_R_hands_4 <| r_if_ne F d_R_hands_7 (by decide) (o_R_hands_23 h0 h1 h2 h3 F hr hlk) (o_R_hands_10 h0 h1 h2 h3 F hr hlk)
theorem g_R_hands {l : Launch} {X : ra_X} {c0 c1 c2 c3 : ra_Sp}  (h0 : ra_MOK l X mi_R_isOutside c0) (h1 : ra_MOK l X mi_R_isNoHouse c1) (h2 : ra_MOK l X mi_He_lay c2) (h3 : ra_MOK l X mi_He_harmOfAll c3) (sp : ra_Sp) (ve : ∀ as σ Z, ra_c1 as = true → as.length = 3 → sp as σ Z → b_R_hands_0 c0 c1 c2 c3 Z (ra_pad 3 as) [] σ) : ra_MOK l X mi_R_hands sp := by
  refine ra_enter (k := fun Z as σ => b_R_hands_0 c0 c1 c2 c3 Z) cn_R rfl (by decide +kernel) ⟨by decide +kernel, by decide +kernel⟩ (by decide +kernel) ?_ ve
  intro p e s m args below meth c Z as σ hsp F hr hlk
  exact o_R_hands_0 h0 h1 h2 h3 F hr hlk

theorem d_R_claim_0 : decode prog_1_method_26_code 0 = .ok (.iload_n 1, 1) := by decide +kernel
theorem d_R_claim_1 : decode prog_1_method_26_code 1 = .ok (.invokestatic 179, 3) := by decide +kernel
theorem d_R_claim_4 : decode prog_1_method_26_code 4 = .ok (.ifCond .ne 14, 3) := by decide +kernel
theorem d_R_claim_7 : decode prog_1_method_26_code 7 = .ok (.iload_n 2, 1) := by decide +kernel
theorem d_R_claim_8 : decode prog_1_method_26_code 8 = .ok (.iconst (-1), 1) := by decide +kernel
theorem d_R_claim_9 : decode prog_1_method_26_code 9 = .ok (.sipush 999, 3) := by decide +kernel
theorem d_R_claim_12 : decode prog_1_method_26_code 12 = .ok (.invokestatic 73, 3) := by decide +kernel
theorem d_R_claim_15 : decode prog_1_method_26_code 15 = .ok (.ifCond .eq 6, 3) := by decide +kernel
theorem d_R_claim_18 : decode prog_1_method_26_code 18 = .ok (.bipush (-5), 2) := by decide +kernel
theorem d_R_claim_20 : decode prog_1_method_26_code 20 = .ok (.ireturn, 1) := by decide +kernel
theorem d_R_claim_21 : decode prog_1_method_26_code 21 = .ok (.aload_n 0, 1) := by decide +kernel
theorem d_R_claim_22 : decode prog_1_method_26_code 22 = .ok (.getfield 62, 3) := by decide +kernel
theorem d_R_claim_25 : decode prog_1_method_26_code 25 = .ok (.iload_n 1, 1) := by decide +kernel
theorem d_R_claim_26 : decode prog_1_method_26_code 26 = .ok (.iaload, 1) := by decide +kernel
theorem d_R_claim_27 : decode prog_1_method_26_code 27 = .ok (.istore_n 3, 1) := by decide +kernel
theorem d_R_claim_28 : decode prog_1_method_26_code 28 = .ok (.aload_n 0, 1) := by decide +kernel
theorem d_R_claim_29 : decode prog_1_method_26_code 29 = .ok (.getfield 62, 3) := by decide +kernel
theorem d_R_claim_32 : decode prog_1_method_26_code 32 = .ok (.iload_n 1, 1) := by decide +kernel
theorem d_R_claim_33 : decode prog_1_method_26_code 33 = .ok (.iload_n 2, 1) := by decide +kernel
theorem d_R_claim_34 : decode prog_1_method_26_code 34 = .ok (.iastore, 1) := by decide +kernel
theorem d_R_claim_35 : decode prog_1_method_26_code 35 = .ok (.iload_n 3, 1) := by decide +kernel
theorem d_R_claim_36 : decode prog_1_method_26_code 36 = .ok (.ireturn, 1) := by decide +kernel
def b_R_claim_21 (c0 c1 : ra_Sp) (Z : ra_R) : ra_K := w_al 0 <| w_gr 0 7 <| w_il 1 <| w_ald <| w_is 3 <| w_al 0 <| w_gr 0 7 <| w_il 1 <| w_il 2 <| w_ast <| w_il 3 <| w_ir Z
def b_R_claim_18 (c0 c1 : ra_Sp) (Z : ra_R) : ra_K := w_c (-5) <| w_ir Z
def b_R_claim_7 (c0 c1 : ra_Sp) (Z : ra_R) : ra_K := w_il 2 <| w_c (-1) <| w_c 999 <| w_cs c1 3 <| w_b1 (fun x => x = 0) (b_R_claim_21 c0 c1 Z) (b_R_claim_18 c0 c1 Z)
def b_R_claim_0 (c0 c1 : ra_Sp) (Z : ra_R) : ra_K := w_il 1 <| w_cs c0 1 <| w_b1 (fun x => x = 0) (b_R_claim_7 c0 c1 Z) (b_R_claim_18 c0 c1 Z)
theorem o_R_claim_21 {X : ra_X} {p : Program} {l : Launch} {e : Env} {s : State} {m : MethodId} {args : Array Value} {below : List Frame} {meth : Method} {c : Code} {Z : ra_R} {c0 c1 : ra_Sp}  (h0 : ra_MOK l X mi_R_isNoNumber c0) (h1 : ra_MOK l X mi_R_isOutside c1) (F : ra_Fx X p rm_R_claim s m args c prog_1_method_26_code 4 cn_R) (hr : meth.sig.returnType = (some .int)) (hlk : meth.locks = false) : ra_At X p l e rm_R_claim s m args below meth c 4 (MQ below (ra_Qc X Z) args s 0 0 (ra_A X)) (b_R_claim_21 c0 c1 Z) 21 :=
  r_aload_n F d_R_claim_21 rfl <| r_getR F cg_R (j := 7) (by decide) rfl fl_R_62 d_R_claim_22 <| r_iload_n F d_R_claim_25 rfl <| r_iaload F d_R_claim_26 <| r_istore_n F d_R_claim_27 rfl (by decide) <| r_aload_n F d_R_claim_28 rfl <| r_getR F cg_R (j := 7) (by decide) rfl fl_R_62 d_R_claim_29 <| r_iload_n F d_R_claim_32 rfl <| r_iload_n F d_R_claim_33 rfl <| r_iastore F d_R_claim_34 <| r_iload_n F d_R_claim_35 rfl <| r_ireturn F hr hlk d_R_claim_36
theorem o_R_claim_18 {X : ra_X} {p : Program} {l : Launch} {e : Env} {s : State} {m : MethodId} {args : Array Value} {below : List Frame} {meth : Method} {c : Code} {Z : ra_R} {c0 c1 : ra_Sp}  (h0 : ra_MOK l X mi_R_isNoNumber c0) (h1 : ra_MOK l X mi_R_isOutside c1) (F : ra_Fx X p rm_R_claim s m args c prog_1_method_26_code 4 cn_R) (hr : meth.sig.returnType = (some .int)) (hlk : meth.locks = false) : ra_At X p l e rm_R_claim s m args below meth c 4 (MQ below (ra_Qc X Z) args s 0 0 (ra_A X)) (b_R_claim_18 c0 c1 Z) 18 :=
  r_bipush F d_R_claim_18 (by decide) <| r_ireturn F hr hlk d_R_claim_20
theorem o_R_claim_7 {X : ra_X} {p : Program} {l : Launch} {e : Env} {s : State} {m : MethodId} {args : Array Value} {below : List Frame} {meth : Method} {c : Code} {Z : ra_R} {c0 c1 : ra_Sp}  (h0 : ra_MOK l X mi_R_isNoNumber c0) (h1 : ra_MOK l X mi_R_isOutside c1) (F : ra_Fx X p rm_R_claim s m args c prog_1_method_26_code 4 cn_R) (hr : meth.sig.returnType = (some .int)) (hlk : meth.locks = false) : ra_At X p l e rm_R_claim s m args below meth c 4 (MQ below (ra_Qc X Z) args s 0 0 (ra_A X)) (b_R_claim_7 c0 c1 Z) 7 :=
  r_iload_n F d_R_claim_7 rfl <| r_iconst F d_R_claim_8 (by decide) <| r_sipush F d_R_claim_9 (by decide) <| r_callS F h1 (co_R_isOutside (by decide +kernel) (by decide +kernel)) ⟨rfl, by decide +kernel⟩ ml_R_73 st_R_isOutside d_R_claim_12 <| r_if_eq F d_R_claim_15 (by decide) (o_R_claim_21 h0 h1 F hr hlk) (o_R_claim_18 h0 h1 F hr hlk)
theorem o_R_claim_0 {X : ra_X} {p : Program} {l : Launch} {e : Env} {s : State} {m : MethodId} {args : Array Value} {below : List Frame} {meth : Method} {c : Code} {Z : ra_R} {c0 c1 : ra_Sp}  (h0 : ra_MOK l X mi_R_isNoNumber c0) (h1 : ra_MOK l X mi_R_isOutside c1) (F : ra_Fx X p rm_R_claim s m args c prog_1_method_26_code 4 cn_R) (hr : meth.sig.returnType = (some .int)) (hlk : meth.locks = false) : ra_At X p l e rm_R_claim s m args below meth c 4 (MQ below (ra_Qc X Z) args s 0 0 (ra_A X)) (b_R_claim_0 c0 c1 Z) 0 :=
  r_iload_n F d_R_claim_0 rfl <| r_callS F h0 (co_R_isNoNumber (by decide +kernel) (by decide +kernel)) ⟨rfl, by decide +kernel⟩ ml_R_179 st_R_isNoNumber d_R_claim_1 <| r_if_ne F d_R_claim_4 (by decide) (o_R_claim_18 h0 h1 F hr hlk) (o_R_claim_7 h0 h1 F hr hlk)
theorem g_R_claim {l : Launch} {X : ra_X} {c0 c1 : ra_Sp}  (h0 : ra_MOK l X mi_R_isNoNumber c0) (h1 : ra_MOK l X mi_R_isOutside c1) (sp : ra_Sp) (ve : ∀ as σ Z, ra_c1 as = true → as.length = 3 → sp as σ Z → b_R_claim_0 c0 c1 Z (ra_pad 4 as) [] σ) : ra_MOK l X mi_R_claim sp := by
  refine ra_enter (k := fun Z as σ => b_R_claim_0 c0 c1 Z) cn_R rfl (by decide +kernel) ⟨by decide +kernel, by decide +kernel⟩ (by decide +kernel) ?_ ve
  intro p e s m args below meth c Z as σ hsp F hr hlk
  exact o_R_claim_0 h0 h1 F hr hlk

theorem d_R_liars_0 : decode prog_1_method_27_code 0 = .ok (.iconst 0, 1) := by decide +kernel
theorem d_R_liars_1 : decode prog_1_method_27_code 1 = .ok (.istore_n 1, 1) := by decide +kernel
theorem d_R_liars_2 : decode prog_1_method_27_code 2 = .ok (.iconst 0, 1) := by decide +kernel
theorem d_R_liars_3 : decode prog_1_method_27_code 3 = .ok (.istore_n 2, 1) := by decide +kernel
theorem d_R_liars_4 : decode prog_1_method_27_code 4 = .ok (.iload_n 2, 1) := by decide +kernel
theorem d_R_liars_5 : decode prog_1_method_27_code 5 = .ok (.aload_n 0, 1) := by decide +kernel
theorem d_R_liars_6 : decode prog_1_method_27_code 6 = .ok (.getfield 12, 3) := by decide +kernel
theorem d_R_liars_9 : decode prog_1_method_27_code 9 = .ok (.getfield 152, 3) := by decide +kernel
theorem d_R_liars_12 : decode prog_1_method_27_code 12 = .ok (.if_icmp .ge 47, 3) := by decide +kernel
theorem d_R_liars_15 : decode prog_1_method_27_code 15 = .ok (.aload_n 0, 1) := by decide +kernel
theorem d_R_liars_16 : decode prog_1_method_27_code 16 = .ok (.getfield 62, 3) := by decide +kernel
theorem d_R_liars_19 : decode prog_1_method_27_code 19 = .ok (.iload_n 2, 1) := by decide +kernel
theorem d_R_liars_20 : decode prog_1_method_27_code 20 = .ok (.iaload, 1) := by decide +kernel
theorem d_R_liars_21 : decode prog_1_method_27_code 21 = .ok (.iconst (-1), 1) := by decide +kernel
theorem d_R_liars_22 : decode prog_1_method_27_code 22 = .ok (.if_icmp .eq 31, 3) := by decide +kernel
theorem d_R_liars_25 : decode prog_1_method_27_code 25 = .ok (.aload_n 0, 1) := by decide +kernel
theorem d_R_liars_26 : decode prog_1_method_27_code 26 = .ok (.getfield 62, 3) := by decide +kernel
theorem d_R_liars_29 : decode prog_1_method_27_code 29 = .ok (.iload_n 2, 1) := by decide +kernel
theorem d_R_liars_30 : decode prog_1_method_27_code 30 = .ok (.iaload, 1) := by decide +kernel
theorem d_R_liars_31 : decode prog_1_method_27_code 31 = .ok (.aload_n 0, 1) := by decide +kernel
theorem d_R_liars_32 : decode prog_1_method_27_code 32 = .ok (.iconst 2, 1) := by decide +kernel
theorem d_R_liars_33 : decode prog_1_method_27_code 33 = .ok (.iload_n 2, 1) := by decide +kernel
theorem d_R_liars_34 : decode prog_1_method_27_code 34 = .ok (.aload_n 0, 1) := by decide +kernel
theorem d_R_liars_35 : decode prog_1_method_27_code 35 = .ok (.getfield 19, 3) := by decide +kernel
theorem d_R_liars_38 : decode prog_1_method_27_code 38 = .ok (.getfield 149, 3) := by decide +kernel
theorem d_R_liars_41 : decode prog_1_method_27_code 41 = .ok (.invokevirtual 145, 3) := by decide +kernel
theorem d_R_liars_44 : decode prog_1_method_27_code 44 = .ok (.if_icmp .eq 9, 3) := by decide +kernel
theorem d_R_liars_47 : decode prog_1_method_27_code 47 = .ok (.iload_n 1, 1) := by decide +kernel
theorem d_R_liars_48 : decode prog_1_method_27_code 48 = .ok (.iconst 1, 1) := by decide +kernel
theorem d_R_liars_49 : decode prog_1_method_27_code 49 = .ok (.iload_n 2, 1) := by decide +kernel
theorem d_R_liars_50 : decode prog_1_method_27_code 50 = .ok (.ishl, 1) := by decide +kernel
theorem d_R_liars_51 : decode prog_1_method_27_code 51 = .ok (.ior, 1) := by decide +kernel
theorem d_R_liars_52 : decode prog_1_method_27_code 52 = .ok (.istore_n 1, 1) := by decide +kernel
theorem d_R_liars_53 : decode prog_1_method_27_code 53 = .ok (.iinc 2 1, 3) := by decide +kernel
theorem d_R_liars_56 : decode prog_1_method_27_code 56 = .ok (.goto (-52), 3) := by decide +kernel
theorem d_R_liars_59 : decode prog_1_method_27_code 59 = .ok (.iload_n 1, 1) := by decide +kernel
theorem d_R_liars_60 : decode prog_1_method_27_code 60 = .ok (.ireturn, 1) := by decide +kernel
def b_R_liars_59 (c0 : ra_Sp) (I : Nat → ra_K) (Z : ra_R) : ra_K := w_il 1 <| w_ir Z
def b_R_liars_53 (c0 : ra_Sp) (I : Nat → ra_K) (Z : ra_R) : ra_K := w_inc 2 1 <| (I 4)
def b_R_liars_47 (c0 : ra_Sp) (I : Nat → ra_K) (Z : ra_R) : ra_K := w_il 1 <| w_c 1 <| w_il 2 <| w_i2 (fun x y => x <<< (y &&& 31)) <| w_i2 (fun x y => x ||| y) <| w_is 1 <| (b_R_liars_53 c0 I Z)
def b_R_liars_25 (c0 : ra_Sp) (I : Nat → ra_K) (Z : ra_R) : ra_K := w_al 0 <| w_gr 0 7 <| w_il 2 <| w_ald <| w_al 0 <| w_c 2 <| w_il 2 <| w_al 0 <| w_gr 0 1 <| w_gi 3 1 <| w_cv c0 4 0 <| w_b2 (fun x y => x = y) (b_R_liars_53 c0 I Z) (b_R_liars_47 c0 I Z)
def b_R_liars_15 (c0 : ra_Sp) (I : Nat → ra_K) (Z : ra_R) : ra_K := w_al 0 <| w_gr 0 7 <| w_il 2 <| w_ald <| w_c (-1) <| w_b2 (fun x y => x = y) (b_R_liars_53 c0 I Z) (b_R_liars_25 c0 I Z)
def b_R_liars_4 (c0 : ra_Sp) (I : Nat → ra_K) (Z : ra_R) : ra_K := w_il 2 <| w_al 0 <| w_gr 0 0 <| w_gi 1 8 <| w_b2 (fun x y => y ≤ x) (b_R_liars_59 c0 I Z) (b_R_liars_15 c0 I Z)
def b_R_liars_0 (c0 : ra_Sp) (I : Nat → ra_K) (Z : ra_R) : ra_K := w_c 0 <| w_is 1 <| w_c 0 <| w_is 2 <| (I 4)
theorem o_R_liars_59 {X : ra_X} {p : Program} {l : Launch} {e : Env} {s : State} {m : MethodId} {args : Array Value} {below : List Frame} {meth : Method} {c : Code} {Z : ra_R} {c0 : ra_Sp}  (h0 : ra_MOK l X mi_R_behind c0) (F : ra_Fx X p rm_R_liars s m args c prog_1_method_27_code 3 cn_R) (hr : meth.sig.returnType = (some .int)) (hlk : meth.locks = false) {I : Nat → ra_K} (hI : ∀ t ∈ [4], ra_At X p l e rm_R_liars s m args below meth c 3 (MQ below (ra_Qc X Z) args s 0 0 (ra_A X)) (I t) t) : ra_At X p l e rm_R_liars s m args below meth c 3 (MQ below (ra_Qc X Z) args s 0 0 (ra_A X)) (b_R_liars_59 c0 I Z) 59 :=
  r_iload_n F d_R_liars_59 rfl <| r_ireturn F hr hlk d_R_liars_60
theorem o_R_liars_53 {X : ra_X} {p : Program} {l : Launch} {e : Env} {s : State} {m : MethodId} {args : Array Value} {below : List Frame} {meth : Method} {c : Code} {Z : ra_R} {c0 : ra_Sp}  (h0 : ra_MOK l X mi_R_behind c0) (F : ra_Fx X p rm_R_liars s m args c prog_1_method_27_code 3 cn_R) (hr : meth.sig.returnType = (some .int)) (hlk : meth.locks = false) {I : Nat → ra_K} (hI : ∀ t ∈ [4], ra_At X p l e rm_R_liars s m args below meth c 3 (MQ below (ra_Qc X Z) args s 0 0 (ra_A X)) (I t) t) : ra_At X p l e rm_R_liars s m args below meth c 3 (MQ below (ra_Qc X Z) args s 0 0 (ra_A X)) (b_R_liars_53 c0 I Z) 53 :=
  r_iinc F d_R_liars_53 (by decide) (by decide) <| r_goto F d_R_liars_56 (by decide) (hI 4 (by decide))
theorem o_R_liars_47 {X : ra_X} {p : Program} {l : Launch} {e : Env} {s : State} {m : MethodId} {args : Array Value} {below : List Frame} {meth : Method} {c : Code} {Z : ra_R} {c0 : ra_Sp}  (h0 : ra_MOK l X mi_R_behind c0) (F : ra_Fx X p rm_R_liars s m args c prog_1_method_27_code 3 cn_R) (hr : meth.sig.returnType = (some .int)) (hlk : meth.locks = false) {I : Nat → ra_K} (hI : ∀ t ∈ [4], ra_At X p l e rm_R_liars s m args below meth c 3 (MQ below (ra_Qc X Z) args s 0 0 (ra_A X)) (I t) t) : ra_At X p l e rm_R_liars s m args below meth c 3 (MQ below (ra_Qc X Z) args s 0 0 (ra_A X)) (b_R_liars_47 c0 I Z) 47 :=
  r_iload_n F d_R_liars_47 rfl <| r_iconst F d_R_liars_48 (by decide) <| r_iload_n F d_R_liars_49 rfl <| r_ishl F d_R_liars_50 <| r_ior F d_R_liars_51 <| r_istore_n F d_R_liars_52 rfl (by decide) <| (o_R_liars_53 h0 F hr hlk hI)
theorem o_R_liars_25 {X : ra_X} {p : Program} {l : Launch} {e : Env} {s : State} {m : MethodId} {args : Array Value} {below : List Frame} {meth : Method} {c : Code} {Z : ra_R} {c0 : ra_Sp}  (h0 : ra_MOK l X mi_R_behind c0) (F : ra_Fx X p rm_R_liars s m args c prog_1_method_27_code 3 cn_R) (hr : meth.sig.returnType = (some .int)) (hlk : meth.locks = false) {I : Nat → ra_K} (hI : ∀ t ∈ [4], ra_At X p l e rm_R_liars s m args below meth c 3 (MQ below (ra_Qc X Z) args s 0 0 (ra_A X)) (I t) t) : ra_At X p l e rm_R_liars s m args below meth c 3 (MQ below (ra_Qc X Z) args s 0 0 (ra_A X)) (b_R_liars_25 c0 I Z) 25 :=
  r_aload_n F d_R_liars_25 rfl <| r_getR F cg_R (j := 7) (by decide) rfl fl_R_62 d_R_liars_26 <| r_iload_n F d_R_liars_29 rfl <| r_iaload F d_R_liars_30 <| r_aload_n F d_R_liars_31 rfl <| r_iconst F d_R_liars_32 (by decide) <| r_iload_n F d_R_liars_33 rfl <| r_aload_n F d_R_liars_34 rfl <| r_getR F cg_R (j := 1) (by decide) rfl fl_R_19 d_R_liars_35 <| r_getI F cg_Wt (j := 1) (by decide) rfl fl_R_149 d_R_liars_38 <| r_callV F h0 (co_R_behind (by decide +kernel) (by decide +kernel)) ⟨rfl, by decide +kernel⟩ ⟨rfl, by decide⟩ ml_R_145 im_R_behind se_R_behind d_R_liars_41 <| r_icmp_eq F d_R_liars_44 (by decide) (o_R_liars_53 h0 F hr hlk hI) (o_R_liars_47 h0 F hr hlk hI)
theorem o_R_liars_15 {X : ra_X} {p : Program} {l : Launch} {e : Env} {s : State} {m : MethodId} {args : Array Value} {below : List Frame} {meth : Method} {c : Code} {Z : ra_R} {c0 : ra_Sp}  (h0 : ra_MOK l X mi_R_behind c0) (F : ra_Fx X p rm_R_liars s m args c prog_1_method_27_code 3 cn_R) (hr : meth.sig.returnType = (some .int)) (hlk : meth.locks = false) {I : Nat → ra_K} (hI : ∀ t ∈ [4], ra_At X p l e rm_R_liars s m args below meth c 3 (MQ below (ra_Qc X Z) args s 0 0 (ra_A X)) (I t) t) : ra_At X p l e rm_R_liars s m args below meth c 3 (MQ below (ra_Qc X Z) args s 0 0 (ra_A X)) (b_R_liars_15 c0 I Z) 15 :=
  r_aload_n F d_R_liars_15 rfl <| r_getR F cg_R (j := 7) (by decide) rfl fl_R_62 d_R_liars_16 <| r_iload_n F d_R_liars_19 rfl <| r_iaload F d_R_liars_20 <| r_iconst F d_R_liars_21 (by decide) <| r_icmp_eq F d_R_liars_22 (by decide) (o_R_liars_53 h0 F hr hlk hI) (o_R_liars_25 h0 F hr hlk hI)
theorem o_R_liars_4 {X : ra_X} {p : Program} {l : Launch} {e : Env} {s : State} {m : MethodId} {args : Array Value} {below : List Frame} {meth : Method} {c : Code} {Z : ra_R} {c0 : ra_Sp}  (h0 : ra_MOK l X mi_R_behind c0) (F : ra_Fx X p rm_R_liars s m args c prog_1_method_27_code 3 cn_R) (hr : meth.sig.returnType = (some .int)) (hlk : meth.locks = false) {I : Nat → ra_K} (hI : ∀ t ∈ [4], ra_At X p l e rm_R_liars s m args below meth c 3 (MQ below (ra_Qc X Z) args s 0 0 (ra_A X)) (I t) t) : ra_At X p l e rm_R_liars s m args below meth c 3 (MQ below (ra_Qc X Z) args s 0 0 (ra_A X)) (b_R_liars_4 c0 I Z) 4 :=
  r_iload_n F d_R_liars_4 rfl <| r_aload_n F d_R_liars_5 rfl <| r_getR F cg_R (j := 0) (by decide) rfl fl_R_12 d_R_liars_6 <| r_getI F cg_V (j := 8) (by decide) rfl fl_R_152 d_R_liars_9 <| r_icmp_ge F d_R_liars_12 (by decide) (o_R_liars_59 h0 F hr hlk hI) (o_R_liars_15 h0 F hr hlk hI)
theorem o_R_liars_0 {X : ra_X} {p : Program} {l : Launch} {e : Env} {s : State} {m : MethodId} {args : Array Value} {below : List Frame} {meth : Method} {c : Code} {Z : ra_R} {c0 : ra_Sp}  (h0 : ra_MOK l X mi_R_behind c0) (F : ra_Fx X p rm_R_liars s m args c prog_1_method_27_code 3 cn_R) (hr : meth.sig.returnType = (some .int)) (hlk : meth.locks = false) {I : Nat → ra_K} (hI : ∀ t ∈ [4], ra_At X p l e rm_R_liars s m args below meth c 3 (MQ below (ra_Qc X Z) args s 0 0 (ra_A X)) (I t) t) : ra_At X p l e rm_R_liars s m args below meth c 3 (MQ below (ra_Qc X Z) args s 0 0 (ra_A X)) (b_R_liars_0 c0 I Z) 0 :=
  r_iconst F d_R_liars_0 (by decide) <| r_istore_n F d_R_liars_1 rfl (by decide) <| r_iconst F d_R_liars_2 (by decide) <| r_istore_n F d_R_liars_3 rfl (by decide) <| (hI 4 (by decide))
theorem g_R_liars {l : Launch} {X : ra_X} {c0 : ra_Sp}  (h0 : ra_MOK l X mi_R_behind c0) (sp : ra_Sp) (I : ra_R → List Value → ra_St → Nat → ra_M → ra_K) (ve : ∀ as σ Z, ra_c1 as = true → as.length = 1 → sp as σ Z → b_R_liars_0 c0 (ra_I (I Z as σ)) Z (ra_pad 3 as) [] σ) (v4 : ∀ as σ Z, sp as σ Z → ∀ μ L S σ1, I Z as σ 4 μ L S σ1 → b_R_liars_4 c0 (ra_J (I Z as σ) μ) Z L S σ1) : ra_MOK l X mi_R_liars sp := by
  refine ra_enter (k := fun Z as σ => b_R_liars_0 c0 (ra_I (I Z as σ)) Z) cn_R rfl (by decide +kernel) ⟨by decide +kernel, by decide +kernel⟩ (by decide +kernel) ?_ ve
  intro p e s m args below meth c Z as σ hsp F hr hlk
  refine o_R_liars_0 h0 F hr hlk (ra_cuts (b := fun t J => if t = 4 then b_R_liars_4 c0 J Z else fun _ _ _ => False) ?_ ?_)
  · intro t ht J hJ
    simp only [List.mem_cons, List.not_mem_nil, or_false] at ht
    rcases ht with rfl
    · exact o_R_liars_4 h0 F hr hlk hJ
  · intro t ht μ L S σ1 hI
    simp only [List.mem_cons, List.not_mem_nil, or_false] at ht
    rcases ht with rfl
    · exact v4 as σ Z hsp μ L S σ1 hI

theorem d_R_isNoForm_0 : decode prog_1_method_41_code 0 = .ok (.iload_n 0, 1) := by decide +kernel
theorem d_R_isNoForm_1 : decode prog_1_method_41_code 1 = .ok (.iconst 0, 1) := by decide +kernel
theorem d_R_isNoForm_2 : decode prog_1_method_41_code 2 = .ok (.iconst 2, 1) := by decide +kernel
theorem d_R_isNoForm_3 : decode prog_1_method_41_code 3 = .ok (.invokestatic 73, 3) := by decide +kernel
theorem d_R_isNoForm_6 : decode prog_1_method_41_code 6 = .ok (.ireturn, 1) := by decide +kernel
def b_R_isNoForm_0 (c0 : ra_Sp) (Z : ra_R) : ra_K := w_il 0 <| w_c 0 <| w_c 2 <| w_cs c0 3 <| w_zr Z
theorem o_R_isNoForm_0 {X : ra_X} {p : Program} {l : Launch} {e : Env} {s : State} {m : MethodId} {args : Array Value} {below : List Frame} {meth : Method} {c : Code} {Z : ra_R} {c0 : ra_Sp}  (h0 : ra_MOK l X mi_R_isOutside c0) (F : ra_Fx X p rm_R_isNoForm s m args c prog_1_method_41_code 1 cn_R) (hr : meth.sig.returnType = (some .boolean)) (hlk : meth.locks = false) : ra_At X p l e rm_R_isNoForm s m args below meth c 1 (MQ below (ra_Qc X Z) args s 0 0 (ra_A X)) (b_R_isNoForm_0 c0 Z) 0 :=
  r_iload_n F d_R_isNoForm_0 rfl <| r_iconst F d_R_isNoForm_1 (by decide) <| r_iconst F d_R_isNoForm_2 (by decide) <| r_callS F h0 (co_R_isOutside (by decide +kernel) (by decide +kernel)) ⟨rfl, by decide +kernel⟩ ml_R_73 st_R_isOutside d_R_isNoForm_3 <| r_zreturn F hr hlk d_R_isNoForm_6
theorem g_R_isNoForm {l : Launch} {X : ra_X} {c0 : ra_Sp}  (h0 : ra_MOK l X mi_R_isOutside c0) (sp : ra_Sp) (ve : ∀ as σ Z, ra_c1 as = true → as.length = 1 → sp as σ Z → b_R_isNoForm_0 c0 Z (ra_pad 1 as) [] σ) : ra_MOK l X mi_R_isNoForm sp := by
  refine ra_enter (k := fun Z as σ => b_R_isNoForm_0 c0 Z) cn_R rfl (by decide +kernel) ⟨by decide +kernel, by decide +kernel⟩ (by decide +kernel) ?_ ve
  intro p e s m args below meth c Z as σ hsp F hr hlk
  exact o_R_isNoForm_0 h0 F hr hlk

theorem d_Sh_makeNew_0 : decode prog_7_method_2_code 0 = .ok (.aload_n 0, 1) := by decide +kernel
theorem d_Sh_makeNew_1 : decode prog_7_method_2_code 1 = .ok (.iconst 0, 1) := by decide +kernel
theorem d_Sh_makeNew_2 : decode prog_7_method_2_code 2 = .ok (.putfield 15, 3) := by decide +kernel
theorem d_Sh_makeNew_5 : decode prog_7_method_2_code 5 = .ok (.aload_n 0, 1) := by decide +kernel
theorem d_Sh_makeNew_6 : decode prog_7_method_2_code 6 = .ok (.iload_n 1, 1) := by decide +kernel
theorem d_Sh_makeNew_7 : decode prog_7_method_2_code 7 = .ok (.putfield 19, 3) := by decide +kernel
theorem d_Sh_makeNew_10 : decode prog_7_method_2_code 10 = .ok (.aload_n 0, 1) := by decide +kernel
theorem d_Sh_makeNew_11 : decode prog_7_method_2_code 11 = .ok (.iload_n 2, 1) := by decide +kernel
theorem d_Sh_makeNew_12 : decode prog_7_method_2_code 12 = .ok (.putfield 23, 3) := by decide +kernel
theorem d_Sh_makeNew_15 : decode prog_7_method_2_code 15 = .ok (.iconst 0, 1) := by decide +kernel
theorem d_Sh_makeNew_16 : decode prog_7_method_2_code 16 = .ok (.istore_n 3, 1) := by decide +kernel
theorem d_Sh_makeNew_17 : decode prog_7_method_2_code 17 = .ok (.iload_n 3, 1) := by decide +kernel
theorem d_Sh_makeNew_18 : decode prog_7_method_2_code 18 = .ok (.iload_n 2, 1) := by decide +kernel
theorem d_Sh_makeNew_19 : decode prog_7_method_2_code 19 = .ok (.if_icmp .ge 16, 3) := by decide +kernel
theorem d_Sh_makeNew_22 : decode prog_7_method_2_code 22 = .ok (.aload_n 0, 1) := by decide +kernel
theorem d_Sh_makeNew_23 : decode prog_7_method_2_code 23 = .ok (.getfield 9, 3) := by decide +kernel
theorem d_Sh_makeNew_26 : decode prog_7_method_2_code 26 = .ok (.iload_n 3, 1) := by decide +kernel
theorem d_Sh_makeNew_27 : decode prog_7_method_2_code 27 = .ok (.iconst 0, 1) := by decide +kernel
theorem d_Sh_makeNew_28 : decode prog_7_method_2_code 28 = .ok (.iastore, 1) := by decide +kernel
theorem d_Sh_makeNew_29 : decode prog_7_method_2_code 29 = .ok (.iinc 3 1, 3) := by decide +kernel
theorem d_Sh_makeNew_32 : decode prog_7_method_2_code 32 = .ok (.goto (-15), 3) := by decide +kernel
theorem d_Sh_makeNew_35 : decode prog_7_method_2_code 35 = .ok (.return_, 1) := by decide +kernel
def b_Sh_makeNew_35 (I : Nat → ra_K) (Z : ra_R) : ra_K := w_vr Z
def b_Sh_makeNew_22 (I : Nat → ra_K) (Z : ra_R) : ra_K := w_al 0 <| w_gr 10 0 <| w_il 3 <| w_c 0 <| w_ast <| w_inc 3 1 <| (I 17)
def b_Sh_makeNew_17 (I : Nat → ra_K) (Z : ra_R) : ra_K := w_il 3 <| w_il 2 <| w_b2 (fun x y => y ≤ x) (b_Sh_makeNew_35 I Z) (b_Sh_makeNew_22 I Z)
def b_Sh_makeNew_0 (I : Nat → ra_K) (Z : ra_R) : ra_K := w_al 0 <| w_c 0 <| w_pz 10 1 <| w_al 0 <| w_il 1 <| w_pi 10 2 <| w_al 0 <| w_il 2 <| w_pi 10 3 <| w_c 0 <| w_is 3 <| (I 17)
theorem o_Sh_makeNew_35 {X : ra_X} {p : Program} {l : Launch} {e : Env} {s : State} {m : MethodId} {args : Array Value} {below : List Frame} {meth : Method} {c : Code} {Z : ra_R}  (F : ra_Fx X p rm_Sh_makeNew s m args c prog_7_method_2_code 4 cn_Sh) (hr : meth.sig.returnType = none) (hlk : meth.locks = false) {I : Nat → ra_K} (hI : ∀ t ∈ [17], ra_At X p l e rm_Sh_makeNew s m args below meth c 4 (MQ below (ra_Qc X Z) args s 0 0 (ra_A X)) (I t) t) : ra_At X p l e rm_Sh_makeNew s m args below meth c 4 (MQ below (ra_Qc X Z) args s 0 0 (ra_A X)) (b_Sh_makeNew_35 I Z) 35 :=
  r_return F hr hlk d_Sh_makeNew_35
theorem o_Sh_makeNew_22 {X : ra_X} {p : Program} {l : Launch} {e : Env} {s : State} {m : MethodId} {args : Array Value} {below : List Frame} {meth : Method} {c : Code} {Z : ra_R}  (F : ra_Fx X p rm_Sh_makeNew s m args c prog_7_method_2_code 4 cn_Sh) (hr : meth.sig.returnType = none) (hlk : meth.locks = false) {I : Nat → ra_K} (hI : ∀ t ∈ [17], ra_At X p l e rm_Sh_makeNew s m args below meth c 4 (MQ below (ra_Qc X Z) args s 0 0 (ra_A X)) (I t) t) : ra_At X p l e rm_Sh_makeNew s m args below meth c 4 (MQ below (ra_Qc X Z) args s 0 0 (ra_A X)) (b_Sh_makeNew_22 I Z) 22 :=
  r_aload_n F d_Sh_makeNew_22 rfl <| r_getR F cg_Sh (j := 0) (by decide) rfl fl_Sh_9 d_Sh_makeNew_23 <| r_iload_n F d_Sh_makeNew_26 rfl <| r_iconst F d_Sh_makeNew_27 (by decide) <| r_iastore F d_Sh_makeNew_28 <| r_iinc F d_Sh_makeNew_29 (by decide) (by decide) <| r_goto F d_Sh_makeNew_32 (by decide) (hI 17 (by decide))
theorem o_Sh_makeNew_17 {X : ra_X} {p : Program} {l : Launch} {e : Env} {s : State} {m : MethodId} {args : Array Value} {below : List Frame} {meth : Method} {c : Code} {Z : ra_R}  (F : ra_Fx X p rm_Sh_makeNew s m args c prog_7_method_2_code 4 cn_Sh) (hr : meth.sig.returnType = none) (hlk : meth.locks = false) {I : Nat → ra_K} (hI : ∀ t ∈ [17], ra_At X p l e rm_Sh_makeNew s m args below meth c 4 (MQ below (ra_Qc X Z) args s 0 0 (ra_A X)) (I t) t) : ra_At X p l e rm_Sh_makeNew s m args below meth c 4 (MQ below (ra_Qc X Z) args s 0 0 (ra_A X)) (b_Sh_makeNew_17 I Z) 17 :=
  r_iload_n F d_Sh_makeNew_17 rfl <| r_iload_n F d_Sh_makeNew_18 rfl <| r_icmp_ge F d_Sh_makeNew_19 (by decide) (o_Sh_makeNew_35 F hr hlk hI) (o_Sh_makeNew_22 F hr hlk hI)
theorem o_Sh_makeNew_0 {X : ra_X} {p : Program} {l : Launch} {e : Env} {s : State} {m : MethodId} {args : Array Value} {below : List Frame} {meth : Method} {c : Code} {Z : ra_R}  (F : ra_Fx X p rm_Sh_makeNew s m args c prog_7_method_2_code 4 cn_Sh) (hr : meth.sig.returnType = none) (hlk : meth.locks = false) {I : Nat → ra_K} (hI : ∀ t ∈ [17], ra_At X p l e rm_Sh_makeNew s m args below meth c 4 (MQ below (ra_Qc X Z) args s 0 0 (ra_A X)) (I t) t) : ra_At X p l e rm_Sh_makeNew s m args below meth c 4 (MQ below (ra_Qc X Z) args s 0 0 (ra_A X)) (b_Sh_makeNew_0 I Z) 0 :=
  r_aload_n F d_Sh_makeNew_0 rfl <| r_iconst F d_Sh_makeNew_1 (by decide) <| r_putZ F cg_Sh (j := 1) (by decide) rfl rfl rfl fl_Sh_15 d_Sh_makeNew_2 <| r_aload_n F d_Sh_makeNew_5 rfl <| r_iload_n F d_Sh_makeNew_6 rfl <| r_putI F cg_Sh (j := 2) (by decide) rfl rfl rfl fl_Sh_19 d_Sh_makeNew_7 <| r_aload_n F d_Sh_makeNew_10 rfl <| r_iload_n F d_Sh_makeNew_11 rfl <| r_putI F cg_Sh (j := 3) (by decide) rfl rfl rfl fl_Sh_23 d_Sh_makeNew_12 <| r_iconst F d_Sh_makeNew_15 (by decide) <| r_istore_n F d_Sh_makeNew_16 rfl (by decide) <| (hI 17 (by decide))
theorem g_Sh_makeNew {l : Launch} {X : ra_X}  (sp : ra_Sp) (I : ra_R → List Value → ra_St → Nat → ra_M → ra_K) (ve : ∀ as σ Z, ra_c1 as = true → as.length = 3 → sp as σ Z → b_Sh_makeNew_0 (ra_I (I Z as σ)) Z (ra_pad 4 as) [] σ) (v17 : ∀ as σ Z, sp as σ Z → ∀ μ L S σ1, I Z as σ 17 μ L S σ1 → b_Sh_makeNew_17 (ra_J (I Z as σ) μ) Z L S σ1) : ra_MOK l X mi_Sh_makeNew sp := by
  refine ra_enter (k := fun Z as σ => b_Sh_makeNew_0 (ra_I (I Z as σ)) Z) cn_Sh rfl (by decide +kernel) ⟨by decide +kernel, by decide +kernel⟩ (by decide +kernel) ?_ ve
  intro p e s m args below meth c Z as σ hsp F hr hlk
  refine o_Sh_makeNew_0 F hr hlk (ra_cuts (b := fun t J => if t = 17 then b_Sh_makeNew_17 J Z else fun _ _ _ => False) ?_ ?_)
  · intro t ht J hJ
    simp only [List.mem_cons, List.not_mem_nil, or_false] at ht
    rcases ht with rfl
    · exact o_Sh_makeNew_17 F hr hlk hJ
  · intro t ht μ L S σ1 hI
    simp only [List.mem_cons, List.not_mem_nil, or_false] at ht
    rcases ht with rfl
    · exact v17 as σ Z hsp μ L S σ1 hI

theorem d_R_sheet_0 : decode prog_1_method_28_code 0 = .ok (.iload_n 1, 1) := by decide +kernel
theorem d_R_sheet_1 : decode prog_1_method_28_code 1 = .ok (.invokestatic 119, 3) := by decide +kernel
theorem d_R_sheet_4 : decode prog_1_method_28_code 4 = .ok (.ifCond .ne 16, 3) := by decide +kernel
theorem d_R_sheet_7 : decode prog_1_method_28_code 7 = .ok (.iload_n 2, 1) := by decide +kernel
theorem d_R_sheet_8 : decode prog_1_method_28_code 8 = .ok (.invokestatic 238, 3) := by decide +kernel
theorem d_R_sheet_11 : decode prog_1_method_28_code 11 = .ok (.ifCond .ne 9, 3) := by decide +kernel
theorem d_R_sheet_14 : decode prog_1_method_28_code 14 = .ok (.iload_n 3, 1) := by decide +kernel
theorem d_R_sheet_15 : decode prog_1_method_28_code 15 = .ok (.bipush 48, 2) := by decide +kernel
theorem d_R_sheet_17 : decode prog_1_method_28_code 17 = .ok (.if_icmp .le 6, 3) := by decide +kernel
theorem d_R_sheet_20 : decode prog_1_method_28_code 20 = .ok (.bipush (-2), 2) := by decide +kernel
theorem d_R_sheet_22 : decode prog_1_method_28_code 22 = .ok (.ireturn, 1) := by decide +kernel
theorem d_R_sheet_23 : decode prog_1_method_28_code 23 = .ok (.iload_n 3, 1) := by decide +kernel
theorem d_R_sheet_24 : decode prog_1_method_28_code 24 = .ok (.ifCond .ge 9, 3) := by decide +kernel
theorem d_R_sheet_27 : decode prog_1_method_28_code 27 = .ok (.aload_n 0, 1) := by decide +kernel
theorem d_R_sheet_28 : decode prog_1_method_28_code 28 = .ok (.iconst 5, 1) := by decide +kernel
theorem d_R_sheet_29 : decode prog_1_method_28_code 29 = .ok (.invokevirtual 126, 3) := by decide +kernel
theorem d_R_sheet_32 : decode prog_1_method_28_code 32 = .ok (.ireturn, 1) := by decide +kernel
theorem d_R_sheet_33 : decode prog_1_method_28_code 33 = .ok (.aload_n 0, 1) := by decide +kernel
theorem d_R_sheet_34 : decode prog_1_method_28_code 34 = .ok (.getfield 68, 3) := by decide +kernel
theorem d_R_sheet_37 : decode prog_1_method_28_code 37 = .ok (.iload_n 1, 1) := by decide +kernel
theorem d_R_sheet_38 : decode prog_1_method_28_code 38 = .ok (.aaload, 1) := by decide +kernel
theorem d_R_sheet_39 : decode prog_1_method_28_code 39 = .ok (.iload_n 2, 1) := by decide +kernel
theorem d_R_sheet_40 : decode prog_1_method_28_code 40 = .ok (.iload_n 3, 1) := by decide +kernel
theorem d_R_sheet_41 : decode prog_1_method_28_code 41 = .ok (.invokevirtual 241, 3) := by decide +kernel
theorem d_R_sheet_44 : decode prog_1_method_28_code 44 = .ok (.iload_n 3, 1) := by decide +kernel
theorem d_R_sheet_45 : decode prog_1_method_28_code 45 = .ok (.ireturn, 1) := by decide +kernel
def b_R_sheet_33 (c0 c1 c2 c3 : ra_Sp) (Z : ra_R) : ra_K := w_al 0 <| w_gr 0 8 <| w_il 1 <| w_rld 3 <| w_il 2 <| w_il 3 <| w_cv c3 3 10 <| w_il 3 <| w_ir Z
def b_R_sheet_27 (c0 c1 c2 c3 : ra_Sp) (Z : ra_R) : ra_K := w_al 0 <| w_c 5 <| w_cv c2 2 0 <| w_ir Z
def b_R_sheet_23 (c0 c1 c2 c3 : ra_Sp) (Z : ra_R) : ra_K := w_il 3 <| w_b1 (fun x => 0 ≤ x) (b_R_sheet_33 c0 c1 c2 c3 Z) (b_R_sheet_27 c0 c1 c2 c3 Z)
def b_R_sheet_20 (c0 c1 c2 c3 : ra_Sp) (Z : ra_R) : ra_K := w_c (-2) <| w_ir Z
def b_R_sheet_14 (c0 c1 c2 c3 : ra_Sp) (Z : ra_R) : ra_K := w_il 3 <| w_c 48 <| w_b2 (fun x y => x ≤ y) (b_R_sheet_23 c0 c1 c2 c3 Z) (b_R_sheet_20 c0 c1 c2 c3 Z)
def b_R_sheet_7 (c0 c1 c2 c3 : ra_Sp) (Z : ra_R) : ra_K := w_il 2 <| w_cs c1 1 <| w_b1 (fun x => x = 0) (b_R_sheet_14 c0 c1 c2 c3 Z) (b_R_sheet_20 c0 c1 c2 c3 Z)
def b_R_sheet_0 (c0 c1 c2 c3 : ra_Sp) (Z : ra_R) : ra_K := w_il 1 <| w_cs c0 1 <| w_b1 (fun x => x = 0) (b_R_sheet_7 c0 c1 c2 c3 Z) (b_R_sheet_20 c0 c1 c2 c3 Z)
theorem o_R_sheet_33 {X : ra_X} {p : Program} {l : Launch} {e : Env} {s : State} {m : MethodId} {args : Array Value} {below : List Frame} {meth : Method} {c : Code} {Z : ra_R} {c0 c1 c2 c3 : ra_Sp}  (h0 : ra_MOK l X mi_R_isNoSheet c0) (h1 : ra_MOK l X mi_R_isNoForm c1) (h2 : ra_MOK l X mi_R_find c2) (h3 : ra_MOK l X mi_Sh_makeNew c3) (F : ra_Fx X p rm_R_sheet s m args c prog_1_method_28_code 4 cn_R) (hr : meth.sig.returnType = (some .int)) (hlk : meth.locks = false) : ra_At X p l e rm_R_sheet s m args below meth c 4 (MQ below (ra_Qc X Z) args s 0 0 (ra_A X)) (b_R_sheet_33 c0 c1 c2 c3 Z) 33 :=
  r_aload_n F d_R_sheet_33 rfl <| r_getR F cg_R (j := 8) (by decide) rfl fl_R_68 d_R_sheet_34 <| r_iload_n F d_R_sheet_37 rfl <| r_aaloadS F d_R_sheet_38 <| r_iload_n F d_R_sheet_39 rfl <| r_iload_n F d_R_sheet_40 rfl <| r_callV F h3 (co_Sh_makeNew (by decide +kernel) (by decide +kernel)) ⟨rfl, by decide +kernel⟩ ⟨rfl, by decide⟩ ml_R_241 im_Sh_makeNew se_Sh_makeNew d_R_sheet_41 <| r_iload_n F d_R_sheet_44 rfl <| r_ireturn F hr hlk d_R_sheet_45
theorem o_R_sheet_27 {X : ra_X} {p : Program} {l : Launch} {e : Env} {s : State} {m : MethodId} {args : Array Value} {below : List Frame} {meth : Method} {c : Code} {Z : ra_R} {c0 c1 c2 c3 : ra_Sp}  (h0 : ra_MOK l X mi_R_isNoSheet c0) (h1 : ra_MOK l X mi_R_isNoForm c1) (h2 : ra_MOK l X mi_R_find c2) (h3 : ra_MOK l X mi_Sh_makeNew c3) (F : ra_Fx X p rm_R_sheet s m args c prog_1_method_28_code 4 cn_R) (hr : meth.sig.returnType = (some .int)) (hlk : meth.locks = false) : ra_At X p l e rm_R_sheet s m args below meth c 4 (MQ below (ra_Qc X Z) args s 0 0 (ra_A X)) (b_R_sheet_27 c0 c1 c2 c3 Z) 27 :=
  r_aload_n F d_R_sheet_27 rfl <| r_iconst F d_R_sheet_28 (by decide) <| r_callV F h2 (co_R_find (by decide +kernel) (by decide +kernel)) ⟨rfl, by decide +kernel⟩ ⟨rfl, by decide⟩ ml_R_126 im_R_find se_R_find d_R_sheet_29 <| r_ireturn F hr hlk d_R_sheet_32
theorem o_R_sheet_23 {X : ra_X} {p : Program} {l : Launch} {e : Env} {s : State} {m : MethodId} {args : Array Value} {below : List Frame} {meth : Method} {c : Code} {Z : ra_R} {c0 c1 c2 c3 : ra_Sp}  (h0 : ra_MOK l X mi_R_isNoSheet c0) (h1 : ra_MOK l X mi_R_isNoForm c1) (h2 : ra_MOK l X mi_R_find c2) (h3 : ra_MOK l X mi_Sh_makeNew c3) (F : ra_Fx X p rm_R_sheet s m args c prog_1_method_28_code 4 cn_R) (hr : meth.sig.returnType = (some .int)) (hlk : meth.locks = false) : ra_At X p l e rm_R_sheet s m args below meth c 4 (MQ below (ra_Qc X Z) args s 0 0 (ra_A X)) (b_R_sheet_23 c0 c1 c2 c3 Z) 23 :=
  r_iload_n F d_R_sheet_23 rfl <| r_if_ge F d_R_sheet_24 (by decide) (o_R_sheet_33 h0 h1 h2 h3 F hr hlk) (o_R_sheet_27 h0 h1 h2 h3 F hr hlk)
theorem o_R_sheet_20 {X : ra_X} {p : Program} {l : Launch} {e : Env} {s : State} {m : MethodId} {args : Array Value} {below : List Frame} {meth : Method} {c : Code} {Z : ra_R} {c0 c1 c2 c3 : ra_Sp}  (h0 : ra_MOK l X mi_R_isNoSheet c0) (h1 : ra_MOK l X mi_R_isNoForm c1) (h2 : ra_MOK l X mi_R_find c2) (h3 : ra_MOK l X mi_Sh_makeNew c3) (F : ra_Fx X p rm_R_sheet s m args c prog_1_method_28_code 4 cn_R) (hr : meth.sig.returnType = (some .int)) (hlk : meth.locks = false) : ra_At X p l e rm_R_sheet s m args below meth c 4 (MQ below (ra_Qc X Z) args s 0 0 (ra_A X)) (b_R_sheet_20 c0 c1 c2 c3 Z) 20 :=
  r_bipush F d_R_sheet_20 (by decide) <| r_ireturn F hr hlk d_R_sheet_22
theorem o_R_sheet_14 {X : ra_X} {p : Program} {l : Launch} {e : Env} {s : State} {m : MethodId} {args : Array Value} {below : List Frame} {meth : Method} {c : Code} {Z : ra_R} {c0 c1 c2 c3 : ra_Sp}  (h0 : ra_MOK l X mi_R_isNoSheet c0) (h1 : ra_MOK l X mi_R_isNoForm c1) (h2 : ra_MOK l X mi_R_find c2) (h3 : ra_MOK l X mi_Sh_makeNew c3) (F : ra_Fx X p rm_R_sheet s m args c prog_1_method_28_code 4 cn_R) (hr : meth.sig.returnType = (some .int)) (hlk : meth.locks = false) : ra_At X p l e rm_R_sheet s m args below meth c 4 (MQ below (ra_Qc X Z) args s 0 0 (ra_A X)) (b_R_sheet_14 c0 c1 c2 c3 Z) 14 :=
  r_iload_n F d_R_sheet_14 rfl <| r_bipush F d_R_sheet_15 (by decide) <| r_icmp_le F d_R_sheet_17 (by decide) (o_R_sheet_23 h0 h1 h2 h3 F hr hlk) (o_R_sheet_20 h0 h1 h2 h3 F hr hlk)
theorem o_R_sheet_7 {X : ra_X} {p : Program} {l : Launch} {e : Env} {s : State} {m : MethodId} {args : Array Value} {below : List Frame} {meth : Method} {c : Code} {Z : ra_R} {c0 c1 c2 c3 : ra_Sp}  (h0 : ra_MOK l X mi_R_isNoSheet c0) (h1 : ra_MOK l X mi_R_isNoForm c1) (h2 : ra_MOK l X mi_R_find c2) (h3 : ra_MOK l X mi_Sh_makeNew c3) (F : ra_Fx X p rm_R_sheet s m args c prog_1_method_28_code 4 cn_R) (hr : meth.sig.returnType = (some .int)) (hlk : meth.locks = false) : ra_At X p l e rm_R_sheet s m args below meth c 4 (MQ below (ra_Qc X Z) args s 0 0 (ra_A X)) (b_R_sheet_7 c0 c1 c2 c3 Z) 7 :=
  r_iload_n F d_R_sheet_7 rfl <| r_callS F h1 (co_R_isNoForm (by decide +kernel) (by decide +kernel)) ⟨rfl, by decide +kernel⟩ ml_R_238 st_R_isNoForm d_R_sheet_8 <| r_if_ne F d_R_sheet_11 (by decide) (o_R_sheet_20 h0 h1 h2 h3 F hr hlk) (o_R_sheet_14 h0 h1 h2 h3 F hr hlk)
theorem o_R_sheet_0 {X : ra_X} {p : Program} {l : Launch} {e : Env} {s : State} {m : MethodId} {args : Array Value} {below : List Frame} {meth : Method} {c : Code} {Z : ra_R} {c0 c1 c2 c3 : ra_Sp}  (h0 : ra_MOK l X mi_R_isNoSheet c0) (h1 : ra_MOK l X mi_R_isNoForm c1) (h2 : ra_MOK l X mi_R_find c2) (h3 : ra_MOK l X mi_Sh_makeNew c3) (F : ra_Fx X p rm_R_sheet s m args c prog_1_method_28_code 4 cn_R) (hr : meth.sig.returnType = (some .int)) (hlk : meth.locks = false) : ra_At X p l e rm_R_sheet s m args below meth c 4 (MQ below (ra_Qc X Z) args s 0 0 (ra_A X)) (b_R_sheet_0 c0 c1 c2 c3 Z) 0 :=
  r_iload_n F d_R_sheet_0 rfl <| r_callS F h0 (co_R_isNoSheet (by decide +kernel) (by decide +kernel)) ⟨rfl, by decide +kernel⟩ ml_R_119 st_R_isNoSheet d_R_sheet_1 <| r_if_ne F d_R_sheet_4 (by decide) (o_R_sheet_20 h0 h1 h2 h3 F hr hlk) (o_R_sheet_7 h0 h1 h2 h3 F hr hlk)
theorem g_R_sheet {l : Launch} {X : ra_X} {c0 c1 c2 c3 : ra_Sp}  (h0 : ra_MOK l X mi_R_isNoSheet c0) (h1 : ra_MOK l X mi_R_isNoForm c1) (h2 : ra_MOK l X mi_R_find c2) (h3 : ra_MOK l X mi_Sh_makeNew c3) (sp : ra_Sp) (ve : ∀ as σ Z, ra_c1 as = true → as.length = 4 → sp as σ Z → b_R_sheet_0 c0 c1 c2 c3 Z (ra_pad 4 as) [] σ) : ra_MOK l X mi_R_sheet sp := by
  refine ra_enter (k := fun Z as σ => b_R_sheet_0 c0 c1 c2 c3 Z) cn_R rfl (by decide +kernel) ⟨by decide +kernel, by decide +kernel⟩ (by decide +kernel) ?_ ve
  intro p e s m args below meth c Z as σ hsp F hr hlk
  exact o_R_sheet_0 h0 h1 h2 h3 F hr hlk

theorem d_R_lose_0 : decode prog_1_method_29_code 0 = .ok (.iload_n 1, 1) := by decide +kernel
theorem d_R_lose_1 : decode prog_1_method_29_code 1 = .ok (.invokestatic 119, 3) := by decide +kernel
theorem d_R_lose_4 : decode prog_1_method_29_code 4 = .ok (.ifCond .eq 6, 3) := by decide +kernel
theorem d_R_lose_7 : decode prog_1_method_29_code 7 = .ok (.bipush (-2), 2) := by decide +kernel
theorem d_R_lose_9 : decode prog_1_method_29_code 9 = .ok (.ireturn, 1) := by decide +kernel
theorem d_R_lose_10 : decode prog_1_method_29_code 10 = .ok (.aload_n 0, 1) := by decide +kernel
theorem d_R_lose_11 : decode prog_1_method_29_code 11 = .ok (.getfield 68, 3) := by decide +kernel
theorem d_R_lose_14 : decode prog_1_method_29_code 14 = .ok (.iload_n 1, 1) := by decide +kernel
theorem d_R_lose_15 : decode prog_1_method_29_code 15 = .ok (.aaload, 1) := by decide +kernel
theorem d_R_lose_16 : decode prog_1_method_29_code 16 = .ok (.getfield 122, 3) := by decide +kernel
theorem d_R_lose_19 : decode prog_1_method_29_code 19 = .ok (.ifCond .eq 9, 3) := by decide +kernel
theorem d_R_lose_22 : decode prog_1_method_29_code 22 = .ok (.aload_n 0, 1) := by decide +kernel
theorem d_R_lose_23 : decode prog_1_method_29_code 23 = .ok (.iconst 1, 1) := by decide +kernel
theorem d_R_lose_24 : decode prog_1_method_29_code 24 = .ok (.invokevirtual 126, 3) := by decide +kernel
theorem d_R_lose_27 : decode prog_1_method_29_code 27 = .ok (.ireturn, 1) := by decide +kernel
theorem d_R_lose_28 : decode prog_1_method_29_code 28 = .ok (.aload_n 0, 1) := by decide +kernel
theorem d_R_lose_29 : decode prog_1_method_29_code 29 = .ok (.getfield 68, 3) := by decide +kernel
theorem d_R_lose_32 : decode prog_1_method_29_code 32 = .ok (.iload_n 1, 1) := by decide +kernel
theorem d_R_lose_33 : decode prog_1_method_29_code 33 = .ok (.aaload, 1) := by decide +kernel
theorem d_R_lose_34 : decode prog_1_method_29_code 34 = .ok (.iconst 1, 1) := by decide +kernel
theorem d_R_lose_35 : decode prog_1_method_29_code 35 = .ok (.putfield 122, 3) := by decide +kernel
theorem d_R_lose_38 : decode prog_1_method_29_code 38 = .ok (.aload_n 0, 1) := by decide +kernel
theorem d_R_lose_39 : decode prog_1_method_29_code 39 = .ok (.getfield 68, 3) := by decide +kernel
theorem d_R_lose_42 : decode prog_1_method_29_code 42 = .ok (.iload_n 1, 1) := by decide +kernel
theorem d_R_lose_43 : decode prog_1_method_29_code 43 = .ok (.aaload, 1) := by decide +kernel
theorem d_R_lose_44 : decode prog_1_method_29_code 44 = .ok (.getfield 129, 3) := by decide +kernel
theorem d_R_lose_47 : decode prog_1_method_29_code 47 = .ok (.ireturn, 1) := by decide +kernel
def b_R_lose_28 (c0 c1 : ra_Sp) (Z : ra_R) : ra_K := w_al 0 <| w_gr 0 8 <| w_il 1 <| w_rld 3 <| w_c 1 <| w_pz 10 1 <| w_al 0 <| w_gr 0 8 <| w_il 1 <| w_rld 3 <| w_gi 10 3 <| w_ir Z
def b_R_lose_22 (c0 c1 : ra_Sp) (Z : ra_R) : ra_K := w_al 0 <| w_c 1 <| w_cv c1 2 0 <| w_ir Z
def b_R_lose_10 (c0 c1 : ra_Sp) (Z : ra_R) : ra_K := w_al 0 <| w_gr 0 8 <| w_il 1 <| w_rld 3 <| w_gi 10 1 <| w_b1 (fun x => x = 0) (b_R_lose_28 c0 c1 Z) (b_R_lose_22 c0 c1 Z)
def b_R_lose_7 (c0 c1 : ra_Sp) (Z : ra_R) : ra_K := w_c (-2) <| w_ir Z
def b_R_lose_0 (c0 c1 : ra_Sp) (Z : ra_R) : ra_K := w_il 1 <| w_cs c0 1 <| w_b1 (fun x => x = 0) (b_R_lose_10 c0 c1 Z) (b_R_lose_7 c0 c1 Z)
theorem o_R_lose_28 {X : ra_X} {p : Program} {l : Launch} {e : Env} {s : State} {m : MethodId} {args : Array Value} {below : List Frame} {meth : Method} {c : Code} {Z : ra_R} {c0 c1 : ra_Sp}  (h0 : ra_MOK l X mi_R_isNoSheet c0) (h1 : ra_MOK l X mi_R_find c1) (F : ra_Fx X p rm_R_lose s m args c prog_1_method_29_code 2 cn_R) (hr : meth.sig.returnType = (some .int)) (hlk : meth.locks = false) : ra_At X p l e rm_R_lose s m args below meth c 2 (MQ below (ra_Qc X Z) args s 0 0 (ra_A X)) (b_R_lose_28 c0 c1 Z) 28 :=
  r_aload_n F d_R_lose_28 rfl <| r_getR F cg_R (j := 8) (by decide) rfl fl_R_68 d_R_lose_29 <| r_iload_n F d_R_lose_32 rfl <| r_aaloadS F d_R_lose_33 <| r_iconst F d_R_lose_34 (by decide) <| r_putZ F cg_Sh (j := 1) (by decide) rfl rfl rfl fl_R_122 d_R_lose_35 <| r_aload_n F d_R_lose_38 rfl <| r_getR F cg_R (j := 8) (by decide) rfl fl_R_68 d_R_lose_39 <| r_iload_n F d_R_lose_42 rfl <| r_aaloadS F d_R_lose_43 <| r_getI F cg_Sh (j := 3) (by decide) rfl fl_R_129 d_R_lose_44 <| r_ireturn F hr hlk d_R_lose_47
theorem o_R_lose_22 {X : ra_X} {p : Program} {l : Launch} {e : Env} {s : State} {m : MethodId} {args : Array Value} {below : List Frame} {meth : Method} {c : Code} {Z : ra_R} {c0 c1 : ra_Sp}  (h0 : ra_MOK l X mi_R_isNoSheet c0) (h1 : ra_MOK l X mi_R_find c1) (F : ra_Fx X p rm_R_lose s m args c prog_1_method_29_code 2 cn_R) (hr : meth.sig.returnType = (some .int)) (hlk : meth.locks = false) : ra_At X p l e rm_R_lose s m args below meth c 2 (MQ below (ra_Qc X Z) args s 0 0 (ra_A X)) (b_R_lose_22 c0 c1 Z) 22 :=
  r_aload_n F d_R_lose_22 rfl <| r_iconst F d_R_lose_23 (by decide) <| r_callV F h1 (co_R_find (by decide +kernel) (by decide +kernel)) ⟨rfl, by decide +kernel⟩ ⟨rfl, by decide⟩ ml_R_126 im_R_find se_R_find d_R_lose_24 <| r_ireturn F hr hlk d_R_lose_27
theorem o_R_lose_10 {X : ra_X} {p : Program} {l : Launch} {e : Env} {s : State} {m : MethodId} {args : Array Value} {below : List Frame} {meth : Method} {c : Code} {Z : ra_R} {c0 c1 : ra_Sp}  (h0 : ra_MOK l X mi_R_isNoSheet c0) (h1 : ra_MOK l X mi_R_find c1) (F : ra_Fx X p rm_R_lose s m args c prog_1_method_29_code 2 cn_R) (hr : meth.sig.returnType = (some .int)) (hlk : meth.locks = false) : ra_At X p l e rm_R_lose s m args below meth c 2 (MQ below (ra_Qc X Z) args s 0 0 (ra_A X)) (b_R_lose_10 c0 c1 Z) 10 :=
  r_aload_n F d_R_lose_10 rfl <| r_getR F cg_R (j := 8) (by decide) rfl fl_R_68 d_R_lose_11 <| r_iload_n F d_R_lose_14 rfl <| r_aaloadS F d_R_lose_15 <| r_getI F cg_Sh (j := 1) (by decide) rfl fl_R_122 d_R_lose_16 <| r_if_eq F d_R_lose_19 (by decide) (o_R_lose_28 h0 h1 F hr hlk) (o_R_lose_22 h0 h1 F hr hlk)
theorem o_R_lose_7 {X : ra_X} {p : Program} {l : Launch} {e : Env} {s : State} {m : MethodId} {args : Array Value} {below : List Frame} {meth : Method} {c : Code} {Z : ra_R} {c0 c1 : ra_Sp}  (h0 : ra_MOK l X mi_R_isNoSheet c0) (h1 : ra_MOK l X mi_R_find c1) (F : ra_Fx X p rm_R_lose s m args c prog_1_method_29_code 2 cn_R) (hr : meth.sig.returnType = (some .int)) (hlk : meth.locks = false) : ra_At X p l e rm_R_lose s m args below meth c 2 (MQ below (ra_Qc X Z) args s 0 0 (ra_A X)) (b_R_lose_7 c0 c1 Z) 7 :=
  r_bipush F d_R_lose_7 (by decide) <| r_ireturn F hr hlk d_R_lose_9
theorem o_R_lose_0 {X : ra_X} {p : Program} {l : Launch} {e : Env} {s : State} {m : MethodId} {args : Array Value} {below : List Frame} {meth : Method} {c : Code} {Z : ra_R} {c0 c1 : ra_Sp}  (h0 : ra_MOK l X mi_R_isNoSheet c0) (h1 : ra_MOK l X mi_R_find c1) (F : ra_Fx X p rm_R_lose s m args c prog_1_method_29_code 2 cn_R) (hr : meth.sig.returnType = (some .int)) (hlk : meth.locks = false) : ra_At X p l e rm_R_lose s m args below meth c 2 (MQ below (ra_Qc X Z) args s 0 0 (ra_A X)) (b_R_lose_0 c0 c1 Z) 0 :=
  r_iload_n F d_R_lose_0 rfl <| r_callS F h0 (co_R_isNoSheet (by decide +kernel) (by decide +kernel)) ⟨rfl, by decide +kernel⟩ ml_R_119 st_R_isNoSheet d_R_lose_1 <| r_if_eq F d_R_lose_4 (by decide) (o_R_lose_10 h0 h1 F hr hlk) (o_R_lose_7 h0 h1 F hr hlk)
theorem g_R_lose {l : Launch} {X : ra_X} {c0 c1 : ra_Sp}  (h0 : ra_MOK l X mi_R_isNoSheet c0) (h1 : ra_MOK l X mi_R_find c1) (sp : ra_Sp) (ve : ∀ as σ Z, ra_c1 as = true → as.length = 2 → sp as σ Z → b_R_lose_0 c0 c1 Z (ra_pad 2 as) [] σ) : ra_MOK l X mi_R_lose sp := by
  refine ra_enter (k := fun Z as σ => b_R_lose_0 c0 c1 Z) cn_R rfl (by decide +kernel) ⟨by decide +kernel, by decide +kernel⟩ (by decide +kernel) ?_ ve
  intro p e s m args below meth c Z as σ hsp F hr hlk
  exact o_R_lose_0 h0 h1 F hr hlk

theorem d_Sh_findingAt_0 : decode prog_7_method_3_code 0 = .ok (.aload_n 0, 1) := by decide +kernel
theorem d_Sh_findingAt_1 : decode prog_7_method_3_code 1 = .ok (.getfield 15, 3) := by decide +kernel
theorem d_Sh_findingAt_4 : decode prog_7_method_3_code 4 = .ok (.ifCond .eq 5, 3) := by decide +kernel
theorem d_Sh_findingAt_7 : decode prog_7_method_3_code 7 = .ok (.iconst 1, 1) := by decide +kernel
theorem d_Sh_findingAt_8 : decode prog_7_method_3_code 8 = .ok (.ireturn, 1) := by decide +kernel
theorem d_Sh_findingAt_9 : decode prog_7_method_3_code 9 = .ok (.aload_n 0, 1) := by decide +kernel
theorem d_Sh_findingAt_10 : decode prog_7_method_3_code 10 = .ok (.getfield 19, 3) := by decide +kernel
theorem d_Sh_findingAt_13 : decode prog_7_method_3_code 13 = .ok (.iload_n 1, 1) := by decide +kernel
theorem d_Sh_findingAt_14 : decode prog_7_method_3_code 14 = .ok (.if_icmp .eq 5, 3) := by decide +kernel
theorem d_Sh_findingAt_17 : decode prog_7_method_3_code 17 = .ok (.iconst 3, 1) := by decide +kernel
theorem d_Sh_findingAt_18 : decode prog_7_method_3_code 18 = .ok (.ireturn, 1) := by decide +kernel
theorem d_Sh_findingAt_19 : decode prog_7_method_3_code 19 = .ok (.iload_n 2, 1) := by decide +kernel
theorem d_Sh_findingAt_20 : decode prog_7_method_3_code 20 = .ok (.iconst 0, 1) := by decide +kernel
theorem d_Sh_findingAt_21 : decode prog_7_method_3_code 21 = .ok (.aload_n 0, 1) := by decide +kernel
theorem d_Sh_findingAt_22 : decode prog_7_method_3_code 22 = .ok (.getfield 23, 3) := by decide +kernel
theorem d_Sh_findingAt_25 : decode prog_7_method_3_code 25 = .ok (.iconst 1, 1) := by decide +kernel
theorem d_Sh_findingAt_26 : decode prog_7_method_3_code 26 = .ok (.isub, 1) := by decide +kernel
theorem d_Sh_findingAt_27 : decode prog_7_method_3_code 27 = .ok (.invokestatic 26, 3) := by decide +kernel
theorem d_Sh_findingAt_30 : decode prog_7_method_3_code 30 = .ok (.ifCond .eq 7, 3) := by decide +kernel
theorem d_Sh_findingAt_33 : decode prog_7_method_3_code 33 = .ok (.iconst 2, 1) := by decide +kernel
theorem d_Sh_findingAt_34 : decode prog_7_method_3_code 34 = .ok (.goto 4, 3) := by decide +kernel
theorem d_Sh_findingAt_37 : decode prog_7_method_3_code 37 = .ok (.iconst 0, 1) := by decide +kernel
theorem d_Sh_findingAt_38 : decode prog_7_method_3_code 38 = .ok (.ireturn, 1) := by decide +kernel
def b_Sh_findingAt_38 (c0 : ra_Sp) (Z : ra_R) : ra_K := w_ir Z
def b_Sh_findingAt_37 (c0 : ra_Sp) (Z : ra_R) : ra_K := w_c 0 <| (b_Sh_findingAt_38 c0 Z)
def b_Sh_findingAt_33 (c0 : ra_Sp) (Z : ra_R) : ra_K := w_c 2 <| (b_Sh_findingAt_38 c0 Z)
def b_Sh_findingAt_19 (c0 : ra_Sp) (Z : ra_R) : ra_K := w_il 2 <| w_c 0 <| w_al 0 <| w_gi 10 3 <| w_c 1 <| w_i2 (fun x y => x - y) <| w_cs c0 3 <| w_b1 (fun x => x = 0) (b_Sh_findingAt_37 c0 Z) (b_Sh_findingAt_33 c0 Z)
def b_Sh_findingAt_17 (c0 : ra_Sp) (Z : ra_R) : ra_K := w_c 3 <| w_ir Z
def b_Sh_findingAt_9 (c0 : ra_Sp) (Z : ra_R) : ra_K := w_al 0 <| w_gi 10 2 <| w_il 1 <| w_b2 (fun x y => x = y) (b_Sh_findingAt_19 c0 Z) (b_Sh_findingAt_17 c0 Z)
def b_Sh_findingAt_7 (c0 : ra_Sp) (Z : ra_R) : ra_K := w_c 1 <| w_ir Z
def b_Sh_findingAt_0 (c0 : ra_Sp) (Z : ra_R) : ra_K := w_al 0 <| w_gi 10 1 <| w_b1 (fun x => x = 0) (b_Sh_findingAt_9 c0 Z) (b_Sh_findingAt_7 c0 Z)
theorem o_Sh_findingAt_38 {X : ra_X} {p : Program} {l : Launch} {e : Env} {s : State} {m : MethodId} {args : Array Value} {below : List Frame} {meth : Method} {c : Code} {Z : ra_R} {c0 : ra_Sp}  (h0 : ra_MOK l X mi_R_isOutside c0) (F : ra_Fx X p rm_Sh_findingAt s m args c prog_7_method_3_code 3 cn_Sh) (hr : meth.sig.returnType = (some .int)) (hlk : meth.locks = false) : ra_At X p l e rm_Sh_findingAt s m args below meth c 3 (MQ below (ra_Qc X Z) args s 0 0 (ra_A X)) (b_Sh_findingAt_38 c0 Z) 38 :=
  r_ireturn F hr hlk d_Sh_findingAt_38
theorem o_Sh_findingAt_37 {X : ra_X} {p : Program} {l : Launch} {e : Env} {s : State} {m : MethodId} {args : Array Value} {below : List Frame} {meth : Method} {c : Code} {Z : ra_R} {c0 : ra_Sp}  (h0 : ra_MOK l X mi_R_isOutside c0) (F : ra_Fx X p rm_Sh_findingAt s m args c prog_7_method_3_code 3 cn_Sh) (hr : meth.sig.returnType = (some .int)) (hlk : meth.locks = false) : ra_At X p l e rm_Sh_findingAt s m args below meth c 3 (MQ below (ra_Qc X Z) args s 0 0 (ra_A X)) (b_Sh_findingAt_37 c0 Z) 37 :=
  r_iconst F d_Sh_findingAt_37 (by decide) <| (o_Sh_findingAt_38 h0 F hr hlk)
theorem o_Sh_findingAt_33 {X : ra_X} {p : Program} {l : Launch} {e : Env} {s : State} {m : MethodId} {args : Array Value} {below : List Frame} {meth : Method} {c : Code} {Z : ra_R} {c0 : ra_Sp}  (h0 : ra_MOK l X mi_R_isOutside c0) (F : ra_Fx X p rm_Sh_findingAt s m args c prog_7_method_3_code 3 cn_Sh) (hr : meth.sig.returnType = (some .int)) (hlk : meth.locks = false) : ra_At X p l e rm_Sh_findingAt s m args below meth c 3 (MQ below (ra_Qc X Z) args s 0 0 (ra_A X)) (b_Sh_findingAt_33 c0 Z) 33 :=
  r_iconst F d_Sh_findingAt_33 (by decide) <| r_goto F d_Sh_findingAt_34 (by decide) (o_Sh_findingAt_38 h0 F hr hlk)
theorem o_Sh_findingAt_19 {X : ra_X} {p : Program} {l : Launch} {e : Env} {s : State} {m : MethodId} {args : Array Value} {below : List Frame} {meth : Method} {c : Code} {Z : ra_R} {c0 : ra_Sp}  (h0 : ra_MOK l X mi_R_isOutside c0) (F : ra_Fx X p rm_Sh_findingAt s m args c prog_7_method_3_code 3 cn_Sh) (hr : meth.sig.returnType = (some .int)) (hlk : meth.locks = false) : ra_At X p l e rm_Sh_findingAt s m args below meth c 3 (MQ below (ra_Qc X Z) args s 0 0 (ra_A X)) (b_Sh_findingAt_19 c0 Z) 19 :=
  r_iload_n F d_Sh_findingAt_19 rfl <| r_iconst F d_Sh_findingAt_20 (by decide) <| r_aload_n F d_Sh_findingAt_21 rfl <| r_getI F cg_Sh (j := 3) (by decide) rfl fl_Sh_23 d_Sh_findingAt_22 <| r_iconst F d_Sh_findingAt_25 (by decide) <| r_isub F d_Sh_findingAt_26 <| r_callSN F h0 (co_R_isOutside (by decide +kernel) (by decide +kernel)) ⟨rfl, by decide +kernel⟩ (host := "RoofAcross") (by decide +kernel) st_R_isOutside d_Sh_findingAt_27 <| r_if_eq F d_Sh_findingAt_30 (by decide) (o_Sh_findingAt_37 h0 F hr hlk) (o_Sh_findingAt_33 h0 F hr hlk)
theorem o_Sh_findingAt_17 {X : ra_X} {p : Program} {l : Launch} {e : Env} {s : State} {m : MethodId} {args : Array Value} {below : List Frame} {meth : Method} {c : Code} {Z : ra_R} {c0 : ra_Sp}  (h0 : ra_MOK l X mi_R_isOutside c0) (F : ra_Fx X p rm_Sh_findingAt s m args c prog_7_method_3_code 3 cn_Sh) (hr : meth.sig.returnType = (some .int)) (hlk : meth.locks = false) : ra_At X p l e rm_Sh_findingAt s m args below meth c 3 (MQ below (ra_Qc X Z) args s 0 0 (ra_A X)) (b_Sh_findingAt_17 c0 Z) 17 :=
  r_iconst F d_Sh_findingAt_17 (by decide) <| r_ireturn F hr hlk d_Sh_findingAt_18
theorem o_Sh_findingAt_9 {X : ra_X} {p : Program} {l : Launch} {e : Env} {s : State} {m : MethodId} {args : Array Value} {below : List Frame} {meth : Method} {c : Code} {Z : ra_R} {c0 : ra_Sp}  (h0 : ra_MOK l X mi_R_isOutside c0) (F : ra_Fx X p rm_Sh_findingAt s m args c prog_7_method_3_code 3 cn_Sh) (hr : meth.sig.returnType = (some .int)) (hlk : meth.locks = false) : ra_At X p l e rm_Sh_findingAt s m args below meth c 3 (MQ below (ra_Qc X Z) args s 0 0 (ra_A X)) (b_Sh_findingAt_9 c0 Z) 9 :=
  r_aload_n F d_Sh_findingAt_9 rfl <| r_getI F cg_Sh (j := 2) (by decide) rfl fl_Sh_19 d_Sh_findingAt_10 <| r_iload_n F d_Sh_findingAt_13 rfl <| r_icmp_eq F d_Sh_findingAt_14 (by decide) (o_Sh_findingAt_19 h0 F hr hlk) (o_Sh_findingAt_17 h0 F hr hlk)
theorem o_Sh_findingAt_7 {X : ra_X} {p : Program} {l : Launch} {e : Env} {s : State} {m : MethodId} {args : Array Value} {below : List Frame} {meth : Method} {c : Code} {Z : ra_R} {c0 : ra_Sp}  (h0 : ra_MOK l X mi_R_isOutside c0) (F : ra_Fx X p rm_Sh_findingAt s m args c prog_7_method_3_code 3 cn_Sh) (hr : meth.sig.returnType = (some .int)) (hlk : meth.locks = false) : ra_At X p l e rm_Sh_findingAt s m args below meth c 3 (MQ below (ra_Qc X Z) args s 0 0 (ra_A X)) (b_Sh_findingAt_7 c0 Z) 7 :=
  r_iconst F d_Sh_findingAt_7 (by decide) <| r_ireturn F hr hlk d_Sh_findingAt_8
theorem o_Sh_findingAt_0 {X : ra_X} {p : Program} {l : Launch} {e : Env} {s : State} {m : MethodId} {args : Array Value} {below : List Frame} {meth : Method} {c : Code} {Z : ra_R} {c0 : ra_Sp}  (h0 : ra_MOK l X mi_R_isOutside c0) (F : ra_Fx X p rm_Sh_findingAt s m args c prog_7_method_3_code 3 cn_Sh) (hr : meth.sig.returnType = (some .int)) (hlk : meth.locks = false) : ra_At X p l e rm_Sh_findingAt s m args below meth c 3 (MQ below (ra_Qc X Z) args s 0 0 (ra_A X)) (b_Sh_findingAt_0 c0 Z) 0 :=
  r_aload_n F d_Sh_findingAt_0 rfl <| r_getI F cg_Sh (j := 1) (by decide) rfl fl_Sh_15 d_Sh_findingAt_1 <| r_if_eq F d_Sh_findingAt_4 (by decide) (o_Sh_findingAt_9 h0 F hr hlk) (o_Sh_findingAt_7 h0 F hr hlk)
theorem g_Sh_findingAt {l : Launch} {X : ra_X} {c0 : ra_Sp}  (h0 : ra_MOK l X mi_R_isOutside c0) (sp : ra_Sp) (ve : ∀ as σ Z, ra_c1 as = true → as.length = 3 → sp as σ Z → b_Sh_findingAt_0 c0 Z (ra_pad 3 as) [] σ) : ra_MOK l X mi_Sh_findingAt sp := by
  refine ra_enter (k := fun Z as σ => b_Sh_findingAt_0 c0 Z) cn_Sh rfl (by decide +kernel) ⟨by decide +kernel, by decide +kernel⟩ (by decide +kernel) ?_ ve
  intro p e s m args below meth c Z as σ hsp F hr hlk
  exact o_Sh_findingAt_0 h0 F hr hlk

theorem d_Sh_store_0 : decode prog_7_method_5_code 0 = .ok (.aload_n 0, 1) := by decide +kernel
theorem d_Sh_store_1 : decode prog_7_method_5_code 1 = .ok (.getfield 19, 3) := by decide +kernel
theorem d_Sh_store_4 : decode prog_7_method_5_code 4 = .ok (.ifCond .ne 14, 3) := by decide +kernel
theorem d_Sh_store_7 : decode prog_7_method_5_code 7 = .ok (.aload_n 0, 1) := by decide +kernel
theorem d_Sh_store_8 : decode prog_7_method_5_code 8 = .ok (.getfield 9, 3) := by decide +kernel
theorem d_Sh_store_11 : decode prog_7_method_5_code 11 = .ok (.iload_n 1, 1) := by decide +kernel
theorem d_Sh_store_12 : decode prog_7_method_5_code 12 = .ok (.iload_n 2, 1) := by decide +kernel
theorem d_Sh_store_13 : decode prog_7_method_5_code 13 = .ok (.i2b, 1) := by decide +kernel
theorem d_Sh_store_14 : decode prog_7_method_5_code 14 = .ok (.iastore, 1) := by decide +kernel
theorem d_Sh_store_15 : decode prog_7_method_5_code 15 = .ok (.goto 29, 3) := by decide +kernel
theorem d_Sh_store_18 : decode prog_7_method_5_code 18 = .ok (.aload_n 0, 1) := by decide +kernel
theorem d_Sh_store_19 : decode prog_7_method_5_code 19 = .ok (.getfield 19, 3) := by decide +kernel
theorem d_Sh_store_22 : decode prog_7_method_5_code 22 = .ok (.iconst 1, 1) := by decide +kernel
theorem d_Sh_store_23 : decode prog_7_method_5_code 23 = .ok (.if_icmp .ne 14, 3) := by decide +kernel
theorem d_Sh_store_26 : decode prog_7_method_5_code 26 = .ok (.aload_n 0, 1) := by decide +kernel
theorem d_Sh_store_27 : decode prog_7_method_5_code 27 = .ok (.getfield 9, 3) := by decide +kernel
theorem d_Sh_store_30 : decode prog_7_method_5_code 30 = .ok (.iload_n 1, 1) := by decide +kernel
theorem d_Sh_store_31 : decode prog_7_method_5_code 31 = .ok (.iload_n 2, 1) := by decide +kernel
theorem d_Sh_store_32 : decode prog_7_method_5_code 32 = .ok (.i2s, 1) := by decide +kernel
theorem d_Sh_store_33 : decode prog_7_method_5_code 33 = .ok (.iastore, 1) := by decide +kernel
theorem d_Sh_store_34 : decode prog_7_method_5_code 34 = .ok (.goto 10, 3) := by decide +kernel
theorem d_Sh_store_37 : decode prog_7_method_5_code 37 = .ok (.aload_n 0, 1) := by decide +kernel
theorem d_Sh_store_38 : decode prog_7_method_5_code 38 = .ok (.getfield 9, 3) := by decide +kernel
theorem d_Sh_store_41 : decode prog_7_method_5_code 41 = .ok (.iload_n 1, 1) := by decide +kernel
theorem d_Sh_store_42 : decode prog_7_method_5_code 42 = .ok (.iload_n 2, 1) := by decide +kernel
theorem d_Sh_store_43 : decode prog_7_method_5_code 43 = .ok (.iastore, 1) := by decide +kernel
theorem d_Sh_store_44 : decode prog_7_method_5_code 44 = .ok (.return_, 1) := by decide +kernel
def b_Sh_store_44 (Z : ra_R) : ra_K := w_vr Z
def b_Sh_store_37 (Z : ra_R) : ra_K := w_al 0 <| w_gr 10 0 <| w_il 1 <| w_il 2 <| w_ast <| (b_Sh_store_44 Z)
def b_Sh_store_26 (Z : ra_R) : ra_K := w_al 0 <| w_gr 10 0 <| w_il 1 <| w_il 2 <| w_i1 (fun x => x.toInt16.toInt32) <| w_ast <| (b_Sh_store_44 Z)
def b_Sh_store_18 (Z : ra_R) : ra_K := w_al 0 <| w_gi 10 2 <| w_c 1 <| w_b2 (fun x y => x = y) (b_Sh_store_26 Z) (b_Sh_store_37 Z)
def b_Sh_store_7 (Z : ra_R) : ra_K := w_al 0 <| w_gr 10 0 <| w_il 1 <| w_il 2 <| w_i1 (fun x => x.toInt8.toInt32) <| w_ast <| (b_Sh_store_44 Z)
def b_Sh_store_0 (Z : ra_R) : ra_K := w_al 0 <| w_gi 10 2 <| w_b1 (fun x => x = 0) (b_Sh_store_7 Z) (b_Sh_store_18 Z)
theorem o_Sh_store_44 {X : ra_X} {p : Program} {l : Launch} {e : Env} {s : State} {m : MethodId} {args : Array Value} {below : List Frame} {meth : Method} {c : Code} {Z : ra_R}  (F : ra_Fx X p rm_Sh_store s m args c prog_7_method_5_code 3 cn_Sh) (hr : meth.sig.returnType = none) (hlk : meth.locks = false) : ra_At X p l e rm_Sh_store s m args below meth c 3 (MQ below (ra_Qc X Z) args s 0 0 (ra_A X)) (b_Sh_store_44 Z) 44 :=
  r_return F hr hlk d_Sh_store_44
theorem o_Sh_store_37 {X : ra_X} {p : Program} {l : Launch} {e : Env} {s : State} {m : MethodId} {args : Array Value} {below : List Frame} {meth : Method} {c : Code} {Z : ra_R}  (F : ra_Fx X p rm_Sh_store s m args c prog_7_method_5_code 3 cn_Sh) (hr : meth.sig.returnType = none) (hlk : meth.locks = false) : ra_At X p l e rm_Sh_store s m args below meth c 3 (MQ below (ra_Qc X Z) args s 0 0 (ra_A X)) (b_Sh_store_37 Z) 37 :=
  r_aload_n F d_Sh_store_37 rfl <| r_getR F cg_Sh (j := 0) (by decide) rfl fl_Sh_9 d_Sh_store_38 <| r_iload_n F d_Sh_store_41 rfl <| r_iload_n F d_Sh_store_42 rfl <| r_iastore F d_Sh_store_43 <| (o_Sh_store_44 F hr hlk)
theorem o_Sh_store_26 {X : ra_X} {p : Program} {l : Launch} {e : Env} {s : State} {m : MethodId} {args : Array Value} {below : List Frame} {meth : Method} {c : Code} {Z : ra_R}  (F : ra_Fx X p rm_Sh_store s m args c prog_7_method_5_code 3 cn_Sh) (hr : meth.sig.returnType = none) (hlk : meth.locks = false) : ra_At X p l e rm_Sh_store s m args below meth c 3 (MQ below (ra_Qc X Z) args s 0 0 (ra_A X)) (b_Sh_store_26 Z) 26 :=
  r_aload_n F d_Sh_store_26 rfl <| r_getR F cg_Sh (j := 0) (by decide) rfl fl_Sh_9 d_Sh_store_27 <| r_iload_n F d_Sh_store_30 rfl <| r_iload_n F d_Sh_store_31 rfl <| r_i2s F d_Sh_store_32 <| r_iastore F d_Sh_store_33 <| r_goto F d_Sh_store_34 (by decide) (o_Sh_store_44 F hr hlk)
theorem o_Sh_store_18 {X : ra_X} {p : Program} {l : Launch} {e : Env} {s : State} {m : MethodId} {args : Array Value} {below : List Frame} {meth : Method} {c : Code} {Z : ra_R}  (F : ra_Fx X p rm_Sh_store s m args c prog_7_method_5_code 3 cn_Sh) (hr : meth.sig.returnType = none) (hlk : meth.locks = false) : ra_At X p l e rm_Sh_store s m args below meth c 3 (MQ below (ra_Qc X Z) args s 0 0 (ra_A X)) (b_Sh_store_18 Z) 18 :=
  r_aload_n F d_Sh_store_18 rfl <| r_getI F cg_Sh (j := 2) (by decide) rfl fl_Sh_19 d_Sh_store_19 <| r_iconst F d_Sh_store_22 (by decide) <| r_icmp_ne F d_Sh_store_23 (by decide) (o_Sh_store_37 F hr hlk) (o_Sh_store_26 F hr hlk)
theorem o_Sh_store_7 {X : ra_X} {p : Program} {l : Launch} {e : Env} {s : State} {m : MethodId} {args : Array Value} {below : List Frame} {meth : Method} {c : Code} {Z : ra_R}  (F : ra_Fx X p rm_Sh_store s m args c prog_7_method_5_code 3 cn_Sh) (hr : meth.sig.returnType = none) (hlk : meth.locks = false) : ra_At X p l e rm_Sh_store s m args below meth c 3 (MQ below (ra_Qc X Z) args s 0 0 (ra_A X)) (b_Sh_store_7 Z) 7 :=
  r_aload_n F d_Sh_store_7 rfl <| r_getR F cg_Sh (j := 0) (by decide) rfl fl_Sh_9 d_Sh_store_8 <| r_iload_n F d_Sh_store_11 rfl <| r_iload_n F d_Sh_store_12 rfl <| r_i2b F d_Sh_store_13 <| r_iastore F d_Sh_store_14 <| r_goto F d_Sh_store_15 (by decide) (o_Sh_store_44 F hr hlk)
theorem o_Sh_store_0 {X : ra_X} {p : Program} {l : Launch} {e : Env} {s : State} {m : MethodId} {args : Array Value} {below : List Frame} {meth : Method} {c : Code} {Z : ra_R}  (F : ra_Fx X p rm_Sh_store s m args c prog_7_method_5_code 3 cn_Sh) (hr : meth.sig.returnType = none) (hlk : meth.locks = false) : ra_At X p l e rm_Sh_store s m args below meth c 3 (MQ below (ra_Qc X Z) args s 0 0 (ra_A X)) (b_Sh_store_0 Z) 0 :=
  r_aload_n F d_Sh_store_0 rfl <| r_getI F cg_Sh (j := 2) (by decide) rfl fl_Sh_19 d_Sh_store_1 <| r_if_ne F d_Sh_store_4 (by decide) (o_Sh_store_18 F hr hlk) (o_Sh_store_7 F hr hlk)
theorem g_Sh_store {l : Launch} {X : ra_X}  (sp : ra_Sp) (ve : ∀ as σ Z, ra_c1 as = true → as.length = 3 → sp as σ Z → b_Sh_store_0 Z (ra_pad 3 as) [] σ) : ra_MOK l X mi_Sh_store sp := by
  refine ra_enter (k := fun Z as σ => b_Sh_store_0 Z) cn_Sh rfl (by decide +kernel) ⟨by decide +kernel, by decide +kernel⟩ (by decide +kernel) ?_ ve
  intro p e s m args below meth c Z as σ hsp F hr hlk
  exact o_Sh_store_0 F hr hlk

theorem d_R_put_0 : decode prog_1_method_30_code 0 = .ok (.iload_n 1, 1) := by decide +kernel
theorem d_R_put_1 : decode prog_1_method_30_code 1 = .ok (.invokestatic 119, 3) := by decide +kernel
theorem d_R_put_4 : decode prog_1_method_30_code 4 = .ok (.ifCond .ne 10, 3) := by decide +kernel
theorem d_R_put_7 : decode prog_1_method_30_code 7 = .ok (.iload_n 2, 1) := by decide +kernel
theorem d_R_put_8 : decode prog_1_method_30_code 8 = .ok (.invokestatic 238, 3) := by decide +kernel
theorem d_R_put_11 : decode prog_1_method_30_code 11 = .ok (.ifCond .eq 6, 3) := by decide +kernel
theorem d_R_put_14 : decode prog_1_method_30_code 14 = .ok (.bipush (-2), 2) := by decide +kernel
theorem d_R_put_16 : decode prog_1_method_30_code 16 = .ok (.ireturn, 1) := by decide +kernel
theorem d_R_put_17 : decode prog_1_method_30_code 17 = .ok (.aload_n 0, 1) := by decide +kernel
theorem d_R_put_18 : decode prog_1_method_30_code 18 = .ok (.getfield 68, 3) := by decide +kernel
theorem d_R_put_21 : decode prog_1_method_30_code 21 = .ok (.iload_n 1, 1) := by decide +kernel
theorem d_R_put_22 : decode prog_1_method_30_code 22 = .ok (.aaload, 1) := by decide +kernel
theorem d_R_put_23 : decode prog_1_method_30_code 23 = .ok (.iload_n 2, 1) := by decide +kernel
theorem d_R_put_24 : decode prog_1_method_30_code 24 = .ok (.iload_n 3, 1) := by decide +kernel
theorem d_R_put_25 : decode prog_1_method_30_code 25 = .ok (.invokevirtual 244, 3) := by decide +kernel
theorem d_R_put_28 : decode prog_1_method_30_code 28 = .ok (.istore 5, 2) := by decide +kernel
theorem d_R_put_30 : decode prog_1_method_30_code 30 = .ok (.iload 5, 2) := by decide +kernel
theorem d_R_put_32 : decode prog_1_method_30_code 32 = .ok (.ifCond .eq 10, 3) := by decide +kernel
theorem d_R_put_35 : decode prog_1_method_30_code 35 = .ok (.aload_n 0, 1) := by decide +kernel
theorem d_R_put_36 : decode prog_1_method_30_code 36 = .ok (.iload 5, 2) := by decide +kernel
theorem d_R_put_38 : decode prog_1_method_30_code 38 = .ok (.invokevirtual 126, 3) := by decide +kernel
theorem d_R_put_41 : decode prog_1_method_30_code 41 = .ok (.ireturn, 1) := by decide +kernel
theorem d_R_put_42 : decode prog_1_method_30_code 42 = .ok (.aload_n 0, 1) := by decide +kernel
theorem d_R_put_43 : decode prog_1_method_30_code 43 = .ok (.getfield 68, 3) := by decide +kernel
theorem d_R_put_46 : decode prog_1_method_30_code 46 = .ok (.iload_n 1, 1) := by decide +kernel
theorem d_R_put_47 : decode prog_1_method_30_code 47 = .ok (.aaload, 1) := by decide +kernel
theorem d_R_put_48 : decode prog_1_method_30_code 48 = .ok (.iload_n 3, 1) := by decide +kernel
theorem d_R_put_49 : decode prog_1_method_30_code 49 = .ok (.iload 4, 2) := by decide +kernel
theorem d_R_put_51 : decode prog_1_method_30_code 51 = .ok (.invokevirtual 248, 3) := by decide +kernel
theorem d_R_put_54 : decode prog_1_method_30_code 54 = .ok (.iconst 1, 1) := by decide +kernel
theorem d_R_put_55 : decode prog_1_method_30_code 55 = .ok (.ireturn, 1) := by decide +kernel
def b_R_put_42 (c0 c1 c2 c3 c4 : ra_Sp) (Z : ra_R) : ra_K := w_al 0 <| w_gr 0 8 <| w_il 1 <| w_rld 3 <| w_il 3 <| w_il 4 <| w_cv c4 3 10 <| w_c 1 <| w_ir Z
def b_R_put_35 (c0 c1 c2 c3 c4 : ra_Sp) (Z : ra_R) : ra_K := w_al 0 <| w_il 5 <| w_cv c3 2 0 <| w_ir Z
def b_R_put_17 (c0 c1 c2 c3 c4 : ra_Sp) (Z : ra_R) : ra_K := w_al 0 <| w_gr 0 8 <| w_il 1 <| w_rld 3 <| w_il 2 <| w_il 3 <| w_cv c2 3 10 <| w_is 5 <| w_il 5 <| w_b1 (fun x => x = 0) (b_R_put_42 c0 c1 c2 c3 c4 Z) (b_R_put_35 c0 c1 c2 c3 c4 Z)
def b_R_put_14 (c0 c1 c2 c3 c4 : ra_Sp) (Z : ra_R) : ra_K := w_c (-2) <| w_ir Z
def b_R_put_7 (c0 c1 c2 c3 c4 : ra_Sp) (Z : ra_R) : ra_K := w_il 2 <| w_cs c1 1 <| w_b1 (fun x => x = 0) (b_R_put_17 c0 c1 c2 c3 c4 Z) (b_R_put_14 c0 c1 c2 c3 c4 Z)
def b_R_put_0 (c0 c1 c2 c3 c4 : ra_Sp) (Z : ra_R) : ra_K := w_il 1 <| w_cs c0 1 <| w_b1 (fun x => x = 0) (b_R_put_7 c0 c1 c2 c3 c4 Z) (b_R_put_14 c0 c1 c2 c3 c4 Z)
theorem o_R_put_42 {X : ra_X} {p : Program} {l : Launch} {e : Env} {s : State} {m : MethodId} {args : Array Value} {below : List Frame} {meth : Method} {c : Code} {Z : ra_R} {c0 c1 c2 c3 c4 : ra_Sp}  (h0 : ra_MOK l X mi_R_isNoSheet c0) (h1 : ra_MOK l X mi_R_isNoForm c1) (h2 : ra_MOK l X mi_Sh_findingAt c2) (h3 : ra_MOK l X mi_R_find c3) (h4 : ra_MOK l X mi_Sh_store c4) (F : ra_Fx X p rm_R_put s m args c prog_1_method_30_code 6 cn_R) (hr : meth.sig.returnType = (some .int)) (hlk : meth.locks = false) : ra_At X p l e rm_R_put s m args below meth c 6 (MQ below (ra_Qc X Z) args s 0 0 (ra_A X)) (b_R_put_42 c0 c1 c2 c3 c4 Z) 42 :=
  r_aload_n F d_R_put_42 rfl <| r_getR F cg_R (j := 8) (by decide) rfl fl_R_68 d_R_put_43 <| r_iload_n F d_R_put_46 rfl <| r_aaloadS F d_R_put_47 <| r_iload_n F d_R_put_48 rfl <| r_iload F d_R_put_49 <| r_callV F h4 (co_Sh_store (by decide +kernel) (by decide +kernel)) ⟨rfl, by decide +kernel⟩ ⟨rfl, by decide⟩ ml_R_248 im_Sh_store se_Sh_store d_R_put_51 <| r_iconst F d_R_put_54 (by decide) <| r_ireturn F hr hlk d_R_put_55
theorem o_R_put_35 {X : ra_X} {p : Program} {l : Launch} {e : Env} {s : State} {m : MethodId} {args : Array Value} {below : List Frame} {meth : Method} {c : Code} {Z : ra_R} {c0 c1 c2 c3 c4 : ra_Sp}  (h0 : ra_MOK l X mi_R_isNoSheet c0) (h1 : ra_MOK l X mi_R_isNoForm c1) (h2 : ra_MOK l X mi_Sh_findingAt c2) (h3 : ra_MOK l X mi_R_find c3) (h4 : ra_MOK l X mi_Sh_store c4) (F : ra_Fx X p rm_R_put s m args c prog_1_method_30_code 6 cn_R) (hr : meth.sig.returnType = (some .int)) (hlk : meth.locks = false) : ra_At X p l e rm_R_put s m args below meth c 6 (MQ below (ra_Qc X Z) args s 0 0 (ra_A X)) (b_R_put_35 c0 c1 c2 c3 c4 Z) 35 :=
  r_aload_n F d_R_put_35 rfl <| r_iload F d_R_put_36 <| r_callV F h3 (co_R_find (by decide +kernel) (by decide +kernel)) ⟨rfl, by decide +kernel⟩ ⟨rfl, by decide⟩ ml_R_126 im_R_find se_R_find d_R_put_38 <| r_ireturn F hr hlk d_R_put_41
theorem o_R_put_17 {X : ra_X} {p : Program} {l : Launch} {e : Env} {s : State} {m : MethodId} {args : Array Value} {below : List Frame} {meth : Method} {c : Code} {Z : ra_R} {c0 c1 c2 c3 c4 : ra_Sp}  (h0 : ra_MOK l X mi_R_isNoSheet c0) (h1 : ra_MOK l X mi_R_isNoForm c1) (h2 : ra_MOK l X mi_Sh_findingAt c2) (h3 : ra_MOK l X mi_R_find c3) (h4 : ra_MOK l X mi_Sh_store c4) (F : ra_Fx X p rm_R_put s m args c prog_1_method_30_code 6 cn_R) (hr : meth.sig.returnType = (some .int)) (hlk : meth.locks = false) : ra_At X p l e rm_R_put s m args below meth c 6 (MQ below (ra_Qc X Z) args s 0 0 (ra_A X)) (b_R_put_17 c0 c1 c2 c3 c4 Z) 17 :=
  r_aload_n F d_R_put_17 rfl <| r_getR F cg_R (j := 8) (by decide) rfl fl_R_68 d_R_put_18 <| r_iload_n F d_R_put_21 rfl <| r_aaloadS F d_R_put_22 <| r_iload_n F d_R_put_23 rfl <| r_iload_n F d_R_put_24 rfl <| r_callV F h2 (co_Sh_findingAt (by decide +kernel) (by decide +kernel)) ⟨rfl, by decide +kernel⟩ ⟨rfl, by decide⟩ ml_R_244 im_Sh_findingAt se_Sh_findingAt d_R_put_25 <| r_istore F d_R_put_28 (by decide) <| r_iload F d_R_put_30 <| r_if_eq F d_R_put_32 (by decide) (o_R_put_42 h0 h1 h2 h3 h4 F hr hlk) (o_R_put_35 h0 h1 h2 h3 h4 F hr hlk)
theorem o_R_put_14 {X : ra_X} {p : Program} {l : Launch} {e : Env} {s : State} {m : MethodId} {args : Array Value} {below : List Frame} {meth : Method} {c : Code} {Z : ra_R} {c0 c1 c2 c3 c4 : ra_Sp}  (h0 : ra_MOK l X mi_R_isNoSheet c0) (h1 : ra_MOK l X mi_R_isNoForm c1) (h2 : ra_MOK l X mi_Sh_findingAt c2) (h3 : ra_MOK l X mi_R_find c3) (h4 : ra_MOK l X mi_Sh_store c4) (F : ra_Fx X p rm_R_put s m args c prog_1_method_30_code 6 cn_R) (hr : meth.sig.returnType = (some .int)) (hlk : meth.locks = false) : ra_At X p l e rm_R_put s m args below meth c 6 (MQ below (ra_Qc X Z) args s 0 0 (ra_A X)) (b_R_put_14 c0 c1 c2 c3 c4 Z) 14 :=
  r_bipush F d_R_put_14 (by decide) <| r_ireturn F hr hlk d_R_put_16
theorem o_R_put_7 {X : ra_X} {p : Program} {l : Launch} {e : Env} {s : State} {m : MethodId} {args : Array Value} {below : List Frame} {meth : Method} {c : Code} {Z : ra_R} {c0 c1 c2 c3 c4 : ra_Sp}  (h0 : ra_MOK l X mi_R_isNoSheet c0) (h1 : ra_MOK l X mi_R_isNoForm c1) (h2 : ra_MOK l X mi_Sh_findingAt c2) (h3 : ra_MOK l X mi_R_find c3) (h4 : ra_MOK l X mi_Sh_store c4) (F : ra_Fx X p rm_R_put s m args c prog_1_method_30_code 6 cn_R) (hr : meth.sig.returnType = (some .int)) (hlk : meth.locks = false) : ra_At X p l e rm_R_put s m args below meth c 6 (MQ below (ra_Qc X Z) args s 0 0 (ra_A X)) (b_R_put_7 c0 c1 c2 c3 c4 Z) 7 :=
  r_iload_n F d_R_put_7 rfl <| r_callS F h1 (co_R_isNoForm (by decide +kernel) (by decide +kernel)) ⟨rfl, by decide +kernel⟩ ml_R_238 st_R_isNoForm d_R_put_8 <| r_if_eq F d_R_put_11 (by decide) (o_R_put_17 h0 h1 h2 h3 h4 F hr hlk) (o_R_put_14 h0 h1 h2 h3 h4 F hr hlk)
theorem o_R_put_0 {X : ra_X} {p : Program} {l : Launch} {e : Env} {s : State} {m : MethodId} {args : Array Value} {below : List Frame} {meth : Method} {c : Code} {Z : ra_R} {c0 c1 c2 c3 c4 : ra_Sp}  (h0 : ra_MOK l X mi_R_isNoSheet c0) (h1 : ra_MOK l X mi_R_isNoForm c1) (h2 : ra_MOK l X mi_Sh_findingAt c2) (h3 : ra_MOK l X mi_R_find c3) (h4 : ra_MOK l X mi_Sh_store c4) (F : ra_Fx X p rm_R_put s m args c prog_1_method_30_code 6 cn_R) (hr : meth.sig.returnType = (some .int)) (hlk : meth.locks = false) : ra_At X p l e rm_R_put s m args below meth c 6 (MQ below (ra_Qc X Z) args s 0 0 (ra_A X)) (b_R_put_0 c0 c1 c2 c3 c4 Z) 0 :=
  r_iload_n F d_R_put_0 rfl <| r_callS F h0 (co_R_isNoSheet (by decide +kernel) (by decide +kernel)) ⟨rfl, by decide +kernel⟩ ml_R_119 st_R_isNoSheet d_R_put_1 <| r_if_ne F d_R_put_4 (by decide) (o_R_put_14 h0 h1 h2 h3 h4 F hr hlk) (o_R_put_7 h0 h1 h2 h3 h4 F hr hlk)
theorem g_R_put {l : Launch} {X : ra_X} {c0 c1 c2 c3 c4 : ra_Sp}  (h0 : ra_MOK l X mi_R_isNoSheet c0) (h1 : ra_MOK l X mi_R_isNoForm c1) (h2 : ra_MOK l X mi_Sh_findingAt c2) (h3 : ra_MOK l X mi_R_find c3) (h4 : ra_MOK l X mi_Sh_store c4) (sp : ra_Sp) (ve : ∀ as σ Z, ra_c1 as = true → as.length = 5 → sp as σ Z → b_R_put_0 c0 c1 c2 c3 c4 Z (ra_pad 6 as) [] σ) : ra_MOK l X mi_R_put sp := by
  refine ra_enter (k := fun Z as σ => b_R_put_0 c0 c1 c2 c3 c4 Z) cn_R rfl (by decide +kernel) ⟨by decide +kernel, by decide +kernel⟩ (by decide +kernel) ?_ ve
  intro p e s m args below meth c Z as σ hsp F hr hlk
  exact o_R_put_0 h0 h1 h2 h3 h4 F hr hlk

theorem d_R_get_0 : decode prog_1_method_31_code 0 = .ok (.iload_n 1, 1) := by decide +kernel
theorem d_R_get_1 : decode prog_1_method_31_code 1 = .ok (.invokestatic 119, 3) := by decide +kernel
theorem d_R_get_4 : decode prog_1_method_31_code 4 = .ok (.ifCond .ne 10, 3) := by decide +kernel
theorem d_R_get_7 : decode prog_1_method_31_code 7 = .ok (.iload_n 2, 1) := by decide +kernel
theorem d_R_get_8 : decode prog_1_method_31_code 8 = .ok (.invokestatic 238, 3) := by decide +kernel
theorem d_R_get_11 : decode prog_1_method_31_code 11 = .ok (.ifCond .eq 6, 3) := by decide +kernel
theorem d_R_get_14 : decode prog_1_method_31_code 14 = .ok (.ldc 251, 2) := by decide +kernel
theorem d_R_get_16 : decode prog_1_method_31_code 16 = .ok (.ireturn, 1) := by decide +kernel
theorem d_R_get_17 : decode prog_1_method_31_code 17 = .ok (.aload_n 0, 1) := by decide +kernel
theorem d_R_get_18 : decode prog_1_method_31_code 18 = .ok (.getfield 68, 3) := by decide +kernel
theorem d_R_get_21 : decode prog_1_method_31_code 21 = .ok (.iload_n 1, 1) := by decide +kernel
theorem d_R_get_22 : decode prog_1_method_31_code 22 = .ok (.aaload, 1) := by decide +kernel
theorem d_R_get_23 : decode prog_1_method_31_code 23 = .ok (.iload_n 2, 1) := by decide +kernel
theorem d_R_get_24 : decode prog_1_method_31_code 24 = .ok (.iload_n 3, 1) := by decide +kernel
theorem d_R_get_25 : decode prog_1_method_31_code 25 = .ok (.invokevirtual 244, 3) := by decide +kernel
theorem d_R_get_28 : decode prog_1_method_31_code 28 = .ok (.istore 4, 2) := by decide +kernel
theorem d_R_get_30 : decode prog_1_method_31_code 30 = .ok (.iload 4, 2) := by decide +kernel
theorem d_R_get_32 : decode prog_1_method_31_code 32 = .ok (.ifCond .eq 12, 3) := by decide +kernel
theorem d_R_get_35 : decode prog_1_method_31_code 35 = .ok (.aload_n 0, 1) := by decide +kernel
theorem d_R_get_36 : decode prog_1_method_31_code 36 = .ok (.iload 4, 2) := by decide +kernel
theorem d_R_get_38 : decode prog_1_method_31_code 38 = .ok (.putfield 252, 3) := by decide +kernel
theorem d_R_get_41 : decode prog_1_method_31_code 41 = .ok (.ldc 251, 2) := by decide +kernel
theorem d_R_get_43 : decode prog_1_method_31_code 43 = .ok (.ireturn, 1) := by decide +kernel
theorem d_R_get_44 : decode prog_1_method_31_code 44 = .ok (.aload_n 0, 1) := by decide +kernel
theorem d_R_get_45 : decode prog_1_method_31_code 45 = .ok (.getfield 68, 3) := by decide +kernel
theorem d_R_get_48 : decode prog_1_method_31_code 48 = .ok (.iload_n 1, 1) := by decide +kernel
theorem d_R_get_49 : decode prog_1_method_31_code 49 = .ok (.aaload, 1) := by decide +kernel
theorem d_R_get_50 : decode prog_1_method_31_code 50 = .ok (.getfield 132, 3) := by decide +kernel
theorem d_R_get_53 : decode prog_1_method_31_code 53 = .ok (.iload_n 3, 1) := by decide +kernel
theorem d_R_get_54 : decode prog_1_method_31_code 54 = .ok (.iaload, 1) := by decide +kernel
theorem d_R_get_55 : decode prog_1_method_31_code 55 = .ok (.ireturn, 1) := by decide +kernel
def b_R_get_44 (c0 c1 c2 : ra_Sp) (Z : ra_R) : ra_K := w_al 0 <| w_gr 0 8 <| w_il 1 <| w_rld 3 <| w_gr 10 0 <| w_il 3 <| w_ald <| w_ir Z
def b_R_get_35 (c0 c1 c2 : ra_Sp) (Z : ra_R) : ra_K := w_al 0 <| w_il 4 <| w_pi 0 9 <| w_c (-2147483648) <| w_ir Z
def b_R_get_17 (c0 c1 c2 : ra_Sp) (Z : ra_R) : ra_K := w_al 0 <| w_gr 0 8 <| w_il 1 <| w_rld 3 <| w_il 2 <| w_il 3 <| w_cv c2 3 10 <| w_is 4 <| w_il 4 <| w_b1 (fun x => x = 0) (b_R_get_44 c0 c1 c2 Z) (b_R_get_35 c0 c1 c2 Z)
def b_R_get_14 (c0 c1 c2 : ra_Sp) (Z : ra_R) : ra_K := w_c (-2147483648) <| w_ir Z
def b_R_get_7 (c0 c1 c2 : ra_Sp) (Z : ra_R) : ra_K := w_il 2 <| w_cs c1 1 <| w_b1 (fun x => x = 0) (b_R_get_17 c0 c1 c2 Z) (b_R_get_14 c0 c1 c2 Z)
def b_R_get_0 (c0 c1 c2 : ra_Sp) (Z : ra_R) : ra_K := w_il 1 <| w_cs c0 1 <| w_b1 (fun x => x = 0) (b_R_get_7 c0 c1 c2 Z) (b_R_get_14 c0 c1 c2 Z)
theorem o_R_get_44 {X : ra_X} {p : Program} {l : Launch} {e : Env} {s : State} {m : MethodId} {args : Array Value} {below : List Frame} {meth : Method} {c : Code} {Z : ra_R} {c0 c1 c2 : ra_Sp}  (h0 : ra_MOK l X mi_R_isNoSheet c0) (h1 : ra_MOK l X mi_R_isNoForm c1) (h2 : ra_MOK l X mi_Sh_findingAt c2) (F : ra_Fx X p rm_R_get s m args c prog_1_method_31_code 5 cn_R) (hr : meth.sig.returnType = (some .int)) (hlk : meth.locks = false) : ra_At X p l e rm_R_get s m args below meth c 5 (MQ below (ra_Qc X Z) args s 0 0 (ra_A X)) (b_R_get_44 c0 c1 c2 Z) 44 :=
  r_aload_n F d_R_get_44 rfl <| r_getR F cg_R (j := 8) (by decide) rfl fl_R_68 d_R_get_45 <| r_iload_n F d_R_get_48 rfl <| r_aaloadS F d_R_get_49 <| r_getR F cg_Sh (j := 0) (by decide) rfl fl_R_132 d_R_get_50 <| r_iload_n F d_R_get_53 rfl <| r_iaload F d_R_get_54 <| r_ireturn F hr hlk d_R_get_55
theorem o_R_get_35 {X : ra_X} {p : Program} {l : Launch} {e : Env} {s : State} {m : MethodId} {args : Array Value} {below : List Frame} {meth : Method} {c : Code} {Z : ra_R} {c0 c1 c2 : ra_Sp}  (h0 : ra_MOK l X mi_R_isNoSheet c0) (h1 : ra_MOK l X mi_R_isNoForm c1) (h2 : ra_MOK l X mi_Sh_findingAt c2) (F : ra_Fx X p rm_R_get s m args c prog_1_method_31_code 5 cn_R) (hr : meth.sig.returnType = (some .int)) (hlk : meth.locks = false) : ra_At X p l e rm_R_get s m args below meth c 5 (MQ below (ra_Qc X Z) args s 0 0 (ra_A X)) (b_R_get_35 c0 c1 c2 Z) 35 :=
  r_aload_n F d_R_get_35 rfl <| r_iload F d_R_get_36 <| r_putI F cg_R (j := 9) (by decide) rfl rfl rfl fl_R_252 d_R_get_38 <| r_ldc F d_R_get_41 kc_R_251 <| r_ireturn F hr hlk d_R_get_43
theorem o_R_get_17 {X : ra_X} {p : Program} {l : Launch} {e : Env} {s : State} {m : MethodId} {args : Array Value} {below : List Frame} {meth : Method} {c : Code} {Z : ra_R} {c0 c1 c2 : ra_Sp}  (h0 : ra_MOK l X mi_R_isNoSheet c0) (h1 : ra_MOK l X mi_R_isNoForm c1) (h2 : ra_MOK l X mi_Sh_findingAt c2) (F : ra_Fx X p rm_R_get s m args c prog_1_method_31_code 5 cn_R) (hr : meth.sig.returnType = (some .int)) (hlk : meth.locks = false) : ra_At X p l e rm_R_get s m args below meth c 5 (MQ below (ra_Qc X Z) args s 0 0 (ra_A X)) (b_R_get_17 c0 c1 c2 Z) 17 :=
  r_aload_n F d_R_get_17 rfl <| r_getR F cg_R (j := 8) (by decide) rfl fl_R_68 d_R_get_18 <| r_iload_n F d_R_get_21 rfl <| r_aaloadS F d_R_get_22 <| r_iload_n F d_R_get_23 rfl <| r_iload_n F d_R_get_24 rfl <| r_callV F h2 (co_Sh_findingAt (by decide +kernel) (by decide +kernel)) ⟨rfl, by decide +kernel⟩ ⟨rfl, by decide⟩ ml_R_244 im_Sh_findingAt se_Sh_findingAt d_R_get_25 <| r_istore F d_R_get_28 (by decide) <| r_iload F d_R_get_30 <| r_if_eq F d_R_get_32 (by decide) (o_R_get_44 h0 h1 h2 F hr hlk) (o_R_get_35 h0 h1 h2 F hr hlk)
theorem o_R_get_14 {X : ra_X} {p : Program} {l : Launch} {e : Env} {s : State} {m : MethodId} {args : Array Value} {below : List Frame} {meth : Method} {c : Code} {Z : ra_R} {c0 c1 c2 : ra_Sp}  (h0 : ra_MOK l X mi_R_isNoSheet c0) (h1 : ra_MOK l X mi_R_isNoForm c1) (h2 : ra_MOK l X mi_Sh_findingAt c2) (F : ra_Fx X p rm_R_get s m args c prog_1_method_31_code 5 cn_R) (hr : meth.sig.returnType = (some .int)) (hlk : meth.locks = false) : ra_At X p l e rm_R_get s m args below meth c 5 (MQ below (ra_Qc X Z) args s 0 0 (ra_A X)) (b_R_get_14 c0 c1 c2 Z) 14 :=
  r_ldc F d_R_get_14 kc_R_251 <| r_ireturn F hr hlk d_R_get_16
theorem o_R_get_7 {X : ra_X} {p : Program} {l : Launch} {e : Env} {s : State} {m : MethodId} {args : Array Value} {below : List Frame} {meth : Method} {c : Code} {Z : ra_R} {c0 c1 c2 : ra_Sp}  (h0 : ra_MOK l X mi_R_isNoSheet c0) (h1 : ra_MOK l X mi_R_isNoForm c1) (h2 : ra_MOK l X mi_Sh_findingAt c2) (F : ra_Fx X p rm_R_get s m args c prog_1_method_31_code 5 cn_R) (hr : meth.sig.returnType = (some .int)) (hlk : meth.locks = false) : ra_At X p l e rm_R_get s m args below meth c 5 (MQ below (ra_Qc X Z) args s 0 0 (ra_A X)) (b_R_get_7 c0 c1 c2 Z) 7 :=
  r_iload_n F d_R_get_7 rfl <| r_callS F h1 (co_R_isNoForm (by decide +kernel) (by decide +kernel)) ⟨rfl, by decide +kernel⟩ ml_R_238 st_R_isNoForm d_R_get_8 <| r_if_eq F d_R_get_11 (by decide) (o_R_get_17 h0 h1 h2 F hr hlk) (o_R_get_14 h0 h1 h2 F hr hlk)
theorem o_R_get_0 {X : ra_X} {p : Program} {l : Launch} {e : Env} {s : State} {m : MethodId} {args : Array Value} {below : List Frame} {meth : Method} {c : Code} {Z : ra_R} {c0 c1 c2 : ra_Sp}  (h0 : ra_MOK l X mi_R_isNoSheet c0) (h1 : ra_MOK l X mi_R_isNoForm c1) (h2 : ra_MOK l X mi_Sh_findingAt c2) (F : ra_Fx X p rm_R_get s m args c prog_1_method_31_code 5 cn_R) (hr : meth.sig.returnType = (some .int)) (hlk : meth.locks = false) : ra_At X p l e rm_R_get s m args below meth c 5 (MQ below (ra_Qc X Z) args s 0 0 (ra_A X)) (b_R_get_0 c0 c1 c2 Z) 0 :=
  r_iload_n F d_R_get_0 rfl <| r_callS F h0 (co_R_isNoSheet (by decide +kernel) (by decide +kernel)) ⟨rfl, by decide +kernel⟩ ml_R_119 st_R_isNoSheet d_R_get_1 <| r_if_ne F d_R_get_4 (by decide) (o_R_get_14 h0 h1 h2 F hr hlk) (o_R_get_7 h0 h1 h2 F hr hlk)
theorem g_R_get {l : Launch} {X : ra_X} {c0 c1 c2 : ra_Sp}  (h0 : ra_MOK l X mi_R_isNoSheet c0) (h1 : ra_MOK l X mi_R_isNoForm c1) (h2 : ra_MOK l X mi_Sh_findingAt c2) (sp : ra_Sp) (ve : ∀ as σ Z, ra_c1 as = true → as.length = 4 → sp as σ Z → b_R_get_0 c0 c1 c2 Z (ra_pad 5 as) [] σ) : ra_MOK l X mi_R_get sp := by
  refine ra_enter (k := fun Z as σ => b_R_get_0 c0 c1 c2 Z) cn_R rfl (by decide +kernel) ⟨by decide +kernel, by decide +kernel⟩ (by decide +kernel) ?_ ve
  intro p e s m args below meth c Z as σ hsp F hr hlk
  exact o_R_get_0 h0 h1 h2 F hr hlk
