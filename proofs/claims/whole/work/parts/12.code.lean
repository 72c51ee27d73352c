theorem d_R_dry_0 : decode prog_1_method_16_code 0 = .ok (.aload_n 0, 1) := by decide +kernel
theorem d_R_dry_1 : decode prog_1_method_16_code 1 = .ok (.iload_n 1, 1) := by decide +kernel
theorem d_R_dry_2 : decode prog_1_method_16_code 2 = .ok (.invokevirtual 96, 3) := by decide +kernel
theorem d_R_dry_5 : decode prog_1_method_16_code 5 = .ok (.ifCond .ne 22, 3) := by decide +kernel
theorem d_R_dry_8 : decode prog_1_method_16_code 8 = .ok (.iload_n 2, 1) := by decide +kernel
theorem d_R_dry_9 : decode prog_1_method_16_code 9 = .ok (.iconst 0, 1) := by decide +kernel
theorem d_R_dry_10 : decode prog_1_method_16_code 10 = .ok (.bipush 99, 2) := by decide +kernel
theorem d_R_dry_12 : decode prog_1_method_16_code 12 = .ok (.invokestatic 73, 3) := by decide +kernel
theorem d_R_dry_15 : decode prog_1_method_16_code 15 = .ok (.ifCond .ne 12, 3) := by decide +kernel
theorem d_R_dry_18 : decode prog_1_method_16_code 18 = .ok (.iload_n 3, 1) := by decide +kernel
theorem d_R_dry_19 : decode prog_1_method_16_code 19 = .ok (.iconst 0, 1) := by decide +kernel
theorem d_R_dry_20 : decode prog_1_method_16_code 20 = .ok (.iconst 1, 1) := by decide +kernel
theorem d_R_dry_21 : decode prog_1_method_16_code 21 = .ok (.invokestatic 73, 3) := by decide +kernel
theorem d_R_dry_24 : decode prog_1_method_16_code 24 = .ok (.ifCond .eq 6, 3) := by decide +kernel
theorem d_R_dry_27 : decode prog_1_method_16_code 27 = .ok (.bipush (-2), 2) := by decide +kernel
theorem d_R_dry_29 : decode prog_1_method_16_code 29 = .ok (.ireturn, 1) := by decide +kernel
theorem d_R_dry_30 : decode prog_1_method_16_code 30 = .ok (.aload_n 0, 1) := by decide +kernel
theorem d_R_dry_31 : decode prog_1_method_16_code 31 = .ok (.getfield 12, 3) := by decide +kernel
theorem d_R_dry_34 : decode prog_1_method_16_code 34 = .ok (.getfield 157, 3) := by decide +kernel
theorem d_R_dry_37 : decode prog_1_method_16_code 37 = .ok (.iload_n 1, 1) := by decide +kernel
theorem d_R_dry_38 : decode prog_1_method_16_code 38 = .ok (.iaload, 1) := by decide +kernel
theorem d_R_dry_39 : decode prog_1_method_16_code 39 = .ok (.invokestatic 160, 3) := by decide +kernel
theorem d_R_dry_42 : decode prog_1_method_16_code 42 = .ok (.iconst 5, 1) := by decide +kernel
theorem d_R_dry_43 : decode prog_1_method_16_code 43 = .ok (.if_icmp .le 6, 3) := by decide +kernel
theorem d_R_dry_46 : decode prog_1_method_16_code 46 = .ok (.bipush (-4), 2) := by decide +kernel
theorem d_R_dry_48 : decode prog_1_method_16_code 48 = .ok (.ireturn, 1) := by decide +kernel
theorem d_R_dry_49 : decode prog_1_method_16_code 49 = .ok (.aload_n 0, 1) := by decide +kernel
theorem d_R_dry_50 : decode prog_1_method_16_code 50 = .ok (.getfield 35, 3) := by decide +kernel
theorem d_R_dry_53 : decode prog_1_method_16_code 53 = .ok (.iload_n 1, 1) := by decide +kernel
theorem d_R_dry_54 : decode prog_1_method_16_code 54 = .ok (.iload_n 2, 1) := by decide +kernel
theorem d_R_dry_55 : decode prog_1_method_16_code 55 = .ok (.invokevirtual 165, 3) := by decide +kernel
theorem d_R_dry_58 : decode prog_1_method_16_code 58 = .ok (.ifCond .ne 20, 3) := by decide +kernel
theorem d_R_dry_61 : decode prog_1_method_16_code 61 = .ok (.aload_n 0, 1) := by decide +kernel
theorem d_R_dry_62 : decode prog_1_method_16_code 62 = .ok (.getfield 35, 3) := by decide +kernel
theorem d_R_dry_65 : decode prog_1_method_16_code 65 = .ok (.aload_n 0, 1) := by decide +kernel
theorem d_R_dry_66 : decode prog_1_method_16_code 66 = .ok (.getfield 12, 3) := by decide +kernel
theorem d_R_dry_69 : decode prog_1_method_16_code 69 = .ok (.getfield 157, 3) := by decide +kernel
theorem d_R_dry_72 : decode prog_1_method_16_code 72 = .ok (.iload_n 1, 1) := by decide +kernel
theorem d_R_dry_73 : decode prog_1_method_16_code 73 = .ok (.iaload, 1) := by decide +kernel
theorem d_R_dry_74 : decode prog_1_method_16_code 74 = .ok (.iload_n 2, 1) := by decide +kernel
theorem d_R_dry_75 : decode prog_1_method_16_code 75 = .ok (.invokevirtual 169, 3) := by decide +kernel
theorem d_R_dry_78 : decode prog_1_method_16_code 78 = .ok (.iload_n 3, 1) := by decide +kernel
theorem d_R_dry_79 : decode prog_1_method_16_code 79 = .ok (.ifCond .ne 15, 3) := by decide +kernel
theorem d_R_dry_82 : decode prog_1_method_16_code 82 = .ok (.aload_n 0, 1) := by decide +kernel
theorem d_R_dry_83 : decode prog_1_method_16_code 83 = .ok (.getfield 35, 3) := by decide +kernel
theorem d_R_dry_86 : decode prog_1_method_16_code 86 = .ok (.getfield 173, 3) := by decide +kernel
theorem d_R_dry_89 : decode prog_1_method_16_code 89 = .ok (.iload_n 1, 1) := by decide +kernel
theorem d_R_dry_90 : decode prog_1_method_16_code 90 = .ok (.iaload, 1) := by decide +kernel
theorem d_R_dry_91 : decode prog_1_method_16_code 91 = .ok (.goto 12, 3) := by decide +kernel
theorem d_R_dry_94 : decode prog_1_method_16_code 94 = .ok (.aload_n 0, 1) := by decide +kernel
theorem d_R_dry_95 : decode prog_1_method_16_code 95 = .ok (.getfield 35, 3) := by decide +kernel
theorem d_R_dry_98 : decode prog_1_method_16_code 98 = .ok (.getfield 176, 3) := by decide +kernel
theorem d_R_dry_101 : decode prog_1_method_16_code 101 = .ok (.iload_n 1, 1) := by decide +kernel
theorem d_R_dry_102 : decode prog_1_method_16_code 102 = .ok (.iaload, 1) := by decide +kernel
theorem d_R_dry_103 : decode prog_1_method_16_code 103 = .ok (.ireturn, 1) := by decide +kernel
def b_R_dry_103 (c0 c1 c2 c3 c4 : ra_Sp) (Z : ra_R) : ra_K := w_ir Z
def b_R_dry_94 (c0 c1 c2 c3 c4 : ra_Sp) (Z : ra_R) : ra_K := w_al 0 <| w_gr 0 3 <| w_gr 6 5 <| w_il 1 <| w_ald <| (b_R_dry_103 c0 c1 c2 c3 c4 Z)
def b_R_dry_82 (c0 c1 c2 c3 c4 : ra_Sp) (Z : ra_R) : ra_K := w_al 0 <| w_gr 0 3 <| w_gr 6 4 <| w_il 1 <| w_ald <| (b_R_dry_103 c0 c1 c2 c3 c4 Z)
def b_R_dry_78 (c0 c1 c2 c3 c4 : ra_Sp) (Z : ra_R) : ra_K := w_il 3 <| w_b1 (fun x => x = 0) (b_R_dry_82 c0 c1 c2 c3 c4 Z) (b_R_dry_94 c0 c1 c2 c3 c4 Z)
def b_R_dry_61 (c0 c1 c2 c3 c4 : ra_Sp) (Z : ra_R) : ra_K := w_al 0 <| w_gr 0 3 <| w_al 0 <| w_gr 0 0 <| w_gr 1 7 <| w_il 1 <| w_ald <| w_il 2 <| w_cv c4 3 6 <| (b_R_dry_78 c0 c1 c2 c3 c4 Z)
def b_R_dry_49 (c0 c1 c2 c3 c4 : ra_Sp) (Z : ra_R) : ra_K := w_al 0 <| w_gr 0 3 <| w_il 1 <| w_il 2 <| w_cv c3 3 6 <| w_b1 (fun x => x = 0) (b_R_dry_61 c0 c1 c2 c3 c4 Z) (b_R_dry_78 c0 c1 c2 c3 c4 Z)
def b_R_dry_46 (c0 c1 c2 c3 c4 : ra_Sp) (Z : ra_R) : ra_K := w_c (-4) <| w_ir Z
def b_R_dry_30 (c0 c1 c2 c3 c4 : ra_Sp) (Z : ra_R) : ra_K := w_al 0 <| w_gr 0 0 <| w_gr 1 7 <| w_il 1 <| w_ald <| w_cs c2 1 <| w_c 5 <| w_b2 (fun x y => x ≤ y) (b_R_dry_49 c0 c1 c2 c3 c4 Z) (b_R_dry_46 c0 c1 c2 c3 c4 Z)
def b_R_dry_27 (c0 c1 c2 c3 c4 : ra_Sp) (Z : ra_R) : ra_K := w_c (-2) <| w_ir Z
def b_R_dry_18 (c0 c1 c2 c3 c4 : ra_Sp) (Z : ra_R) : ra_K := w_il 3 <| w_c 0 <| w_c 1 <| w_cs c1 3 <| w_b1 (fun x => x = 0) (b_R_dry_30 c0 c1 c2 c3 c4 Z) (b_R_dry_27 c0 c1 c2 c3 c4 Z)
def b_R_dry_8 (c0 c1 c2 c3 c4 : ra_Sp) (Z : ra_R) : ra_K := w_il 2 <| w_c 0 <| w_c 99 <| w_cs c1 3 <| w_b1 (fun x => x = 0) (b_R_dry_18 c0 c1 c2 c3 c4 Z) (b_R_dry_27 c0 c1 c2 c3 c4 Z)
def b_R_dry_0 (c0 c1 c2 c3 c4 : ra_Sp) (Z : ra_R) : ra_K := w_al 0 <| w_il 1 <| w_cv c0 2 0 <| w_b1 (fun x => x = 0) (b_R_dry_8 c0 c1 c2 c3 c4 Z) (b_R_dry_27 c0 c1 c2 c3 c4 Z)
theorem o_R_dry_103 {X : ra_X} {p : Program} {l : Launch} {e : Env} {s : State} {m : MethodId} {args : Array Value} {below : List Frame} {meth : Method} {c : Code} {Z : ra_R} {c0 c1 c2 c3 c4 : ra_Sp}  (h0 : ra_MOK l X mi_R_isNoHouse c0) (h1 : ra_MOK l X mi_R_isOutside c1) (h2 : ra_MOK l X mi_J_bitCount c2) (h3 : ra_MOK l X mi_Mo_isTried c3) (h4 : ra_MOK l X mi_Mo_tryAll c4) (F : ra_Fx X p rm_R_dry s m args c prog_1_method_16_code 4 cn_R) (hr : meth.sig.returnType = (some .int)) (hlk : meth.locks = false) : ra_At X p l e rm_R_dry s m args below meth c 4 (MQ below (ra_Qc X Z) args s 0 0 (ra_A X)) (b_R_dry_103 c0 c1 c2 c3 c4 Z) 103 :=
  r_ireturn F hr hlk d_R_dry_103
theorem o_R_dry_94 {X : ra_X} {p : Program} {l : Launch} {e : Env} {s : State} {m : MethodId} {args : Array Value} {below : List Frame} {meth : Method} {c : Code} {Z : ra_R} {c0 c1 c2 c3 c4 : ra_Sp}  (h0 : ra_MOK l X mi_R_isNoHouse c0) (h1 : ra_MOK l X mi_R_isOutside c1) (h2 : ra_MOK l X mi_J_bitCount c2) (h3 : ra_MOK l X mi_Mo_isTried c3) (h4 : ra_MOK l X mi_Mo_tryAll c4) (F : ra_Fx X p rm_R_dry s m args c prog_1_method_16_code 4 cn_R) (hr : meth.sig.returnType = (some .int)) (hlk : meth.locks = false) : ra_At X p l e rm_R_dry s m args below meth c 4 (MQ below (ra_Qc X Z) args s 0 0 (ra_A X)) (b_R_dry_94 c0 c1 c2 c3 c4 Z) 94 :=
  r_aload_n F d_R_dry_94 rfl <| r_getR F cg_R (j := 3) (by decide) rfl fl_R_35 d_R_dry_95 <| r_getR F cg_Mo (j := 5) (by decide) rfl fl_R_176 d_R_dry_98 <| r_iload_n F d_R_dry_101 rfl <| r_iaload F d_R_dry_102 <| (o_R_dry_103 h0 h1 h2 h3 h4 F hr hlk)
theorem o_R_dry_82 {X : ra_X} {p : Program} {l : Launch} {e : Env} {s : State} {m : MethodId} {args : Array Value} {below : List Frame} {meth : Method} {c : Code} {Z : ra_R} {c0 c1 c2 c3 c4 : ra_Sp}  (h0 : ra_MOK l X mi_R_isNoHouse c0) (h1 : ra_MOK l X mi_R_isOutside c1) (h2 : ra_MOK l X mi_J_bitCount c2) (h3 : ra_MOK l X mi_Mo_isTried c3) (h4 : ra_MOK l X mi_Mo_tryAll c4) (F : ra_Fx X p rm_R_dry s m args c prog_1_method_16_code 4 cn_R) (hr : meth.sig.returnType = (some .int)) (hlk : meth.locks = false) : ra_At X p l e rm_R_dry s m args below meth c 4 (MQ below (ra_Qc X Z) args s 0 0 (ra_A X)) (b_R_dry_82 c0 c1 c2 c3 c4 Z) 82 :=
  r_aload_n F d_R_dry_82 rfl <| r_getR F cg_R (j := 3) (by decide) rfl fl_R_35 d_R_dry_83 <| r_getR F cg_Mo (j := 4) (by decide) rfl fl_R_173 d_R_dry_86 <| r_iload_n F d_R_dry_89 rfl <| r_iaload F d_R_dry_90 <| r_goto F d_R_dry_91 (by decide) (o_R_dry_103 h0 h1 h2 h3 h4 F hr hlk)
theorem o_R_dry_78 {X : ra_X} {p : Program} {l : Launch} {e : Env} {s : State} {m : MethodId} {args : Array Value} {below : List Frame} {meth : Method} {c : Code} {Z : ra_R} {c0 c1 c2 c3 c4 : ra_Sp}  (h0 : ra_MOK l X mi_R_isNoHouse c0) (h1 : ra_MOK l X mi_R_isOutside c1) (h2 : ra_MOK l X mi_J_bitCount c2) (h3 : ra_MOK l X mi_Mo_isTried c3) (h4 : ra_MOK l X mi_Mo_tryAll c4) (F : ra_Fx X p rm_R_dry s m args c prog_1_method_16_code 4 cn_R) (hr : meth.sig.returnType = (some .int)) (hlk : meth.locks = false) : ra_At X p l e rm_R_dry s m args below meth c 4 (MQ below (ra_Qc X Z) args s 0 0 (ra_A X)) (b_R_dry_78 c0 c1 c2 c3 c4 Z) 78 :=
  r_iload_n F d_R_dry_78 rfl <| r_if_ne F d_R_dry_79 (by decide) (o_R_dry_94 h0 h1 h2 h3 h4 F hr hlk) (o_R_dry_82 h0 h1 h2 h3 h4 F hr hlk)
theorem o_R_dry_61 {X : ra_X} {p : Program} {l : Launch} {e : Env} {s : State} {m : MethodId} {args : Array Value} {below : List Frame} {meth : Method} {c : Code} {Z : ra_R} {c0 c1 c2 c3 c4 : ra_Sp}  (h0 : ra_MOK l X mi_R_isNoHouse c0) (h1 : ra_MOK l X mi_R_isOutside c1) (h2 : ra_MOK l X mi_J_bitCount c2) (h3 : ra_MOK l X mi_Mo_isTried c3) (h4 : ra_MOK l X mi_Mo_tryAll c4) (F : ra_Fx X p rm_R_dry s m args c prog_1_method_16_code 4 cn_R) (hr : meth.sig.returnType = (some .int)) (hlk : meth.locks = false) : ra_At X p l e rm_R_dry s m args below meth c 4 (MQ below (ra_Qc X Z) args s 0 0 (ra_A X)) (b_R_dry_61 c0 c1 c2 c3 c4 Z) 61 :=
  r_aload_n F d_R_dry_61 rfl <| r_getR F cg_R (j := 3) (by decide) rfl fl_R_35 d_R_dry_62 <| r_aload_n F d_R_dry_65 rfl <| r_getR F cg_R (j := 0) (by decide) rfl fl_R_12 d_R_dry_66 <| r_getR F cg_V (j := 7) (by decide) rfl fl_R_157 d_R_dry_69 <| r_iload_n F d_R_dry_72 rfl <| r_iaload F d_R_dry_73 <| r_iload_n F d_R_dry_74 rfl <| r_callV F h4 (co_Mo_tryAll (by decide +kernel) (by decide +kernel)) ⟨rfl, by decide +kernel⟩ ⟨rfl, by decide⟩ ml_R_169 im_Mo_tryAll se_Mo_tryAll d_R_dry_75 <| (o_R_dry_78 h0 h1 h2 h3 h4 F hr hlk)
theorem o_R_dry_49 {X : ra_X} {p : Program} {l : Launch} {e : Env} {s : State} {m : MethodId} {args : Array Value} {below : List Frame} {meth : Method} {c : Code} {Z : ra_R} {c0 c1 c2 c3 c4 : ra_Sp}  (h0 : ra_MOK l X mi_R_isNoHouse c0) (h1 : ra_MOK l X mi_R_isOutside c1) (h2 : ra_MOK l X mi_J_bitCount c2) (h3 : ra_MOK l X mi_Mo_isTried c3) (h4 : ra_MOK l X mi_Mo_tryAll c4) (F : ra_Fx X p rm_R_dry s m args c prog_1_method_16_code 4 cn_R) (hr : meth.sig.returnType = (some .int)) (hlk : meth.locks = false) : ra_At X p l e rm_R_dry s m args below meth c 4 (MQ below (ra_Qc X Z) args s 0 0 (ra_A X)) (b_R_dry_49 c0 c1 c2 c3 c4 Z) 49 :=
  r_aload_n F d_R_dry_49 rfl <| r_getR F cg_R (j := 3) (by decide) rfl fl_R_35 d_R_dry_50 <| r_iload_n F d_R_dry_53 rfl <| r_iload_n F d_R_dry_54 rfl <| r_callV F h3 (co_Mo_isTried (by decide +kernel) (by decide +kernel)) ⟨rfl, by decide +kernel⟩ ⟨rfl, by decide⟩ ml_R_165 im_Mo_isTried se_Mo_isTried d_R_dry_55 <| r_if_ne F d_R_dry_58 (by decide) (o_R_dry_78 h0 h1 h2 h3 h4 F hr hlk) (o_R_dry_61 h0 h1 h2 h3 h4 F hr hlk)
theorem o_R_dry_46 {X : ra_X} {p : Program} {l : Launch} {e : Env} {s : State} {m : MethodId} {args : Array Value} {below : List Frame} {meth : Method} {c : Code} {Z : ra_R} {c0 c1 c2 c3 c4 : ra_Sp}  (h0 : ra_MOK l X mi_R_isNoHouse c0) (h1 : ra_MOK l X mi_R_isOutside c1) (h2 : ra_MOK l X mi_J_bitCount c2) (h3 : ra_MOK l X mi_Mo_isTried c3) (h4 : ra_MOK l X mi_Mo_tryAll c4) (F : ra_Fx X p rm_R_dry s m args c prog_1_method_16_code 4 cn_R) (hr : meth.sig.returnType = (some .int)) (hlk : meth.locks = false) : ra_At X p l e rm_R_dry s m args below meth c 4 (MQ below (ra_Qc X Z) args s 0 0 (ra_A X)) (b_R_dry_46 c0 c1 c2 c3 c4 Z) 46 :=
  r_bipush F d_R_dry_46 (by decide) <| r_ireturn F hr hlk d_R_dry_48
theorem o_R_dry_30 {X : ra_X} {p : Program} {l : Launch} {e : Env} {s : State} {m : MethodId} {args : Array Value} {below : List Frame} {meth : Method} {c : Code} {Z : ra_R} {c0 c1 c2 c3 c4 : ra_Sp}  (h0 : ra_MOK l X mi_R_isNoHouse c0) (h1 : ra_MOK l X mi_R_isOutside c1) (h2 : ra_MOK l X mi_J_bitCount c2) (h3 : ra_MOK l X mi_Mo_isTried c3) (h4 : ra_MOK l X mi_Mo_tryAll c4) (F : ra_Fx X p rm_R_dry s m args c prog_1_method_16_code 4 cn_R) (hr : meth.sig.returnType = (some .int)) (hlk : meth.locks = false) : ra_At X p l e rm_R_dry s m args below meth c 4 (MQ below (ra_Qc X Z) args s 0 0 (ra_A X)) (b_R_dry_30 c0 c1 c2 c3 c4 Z) 30 :=
  r_aload_n F d_R_dry_30 rfl <| r_getR F cg_R (j := 0) (by decide) rfl fl_R_12 d_R_dry_31 <| r_getR F cg_V (j := 7) (by decide) rfl fl_R_157 d_R_dry_34 <| r_iload_n F d_R_dry_37 rfl <| r_iaload F d_R_dry_38 <| r_callS F h2 (co_J_bitCount (by decide +kernel) (by decide +kernel)) ⟨rfl, by decide +kernel⟩ ml_R_160 st_J_bitCount d_R_dry_39 <| r_iconst F d_R_dry_42 (by decide) <| r_icmp_le F d_R_dry_43 (by decide) (o_R_dry_49 h0 h1 h2 h3 h4 F hr hlk) (o_R_dry_46 h0 h1 h2 h3 h4 F hr hlk)
theorem o_R_dry_27 {X : ra_X} {p : Program} {l : Launch} {e : Env} {s : State} {m : MethodId} {args : Array Value} {below : List Frame} {meth : Method} {c : Code} {Z : ra_R} {c0 c1 c2 c3 c4 : ra_Sp}  (h0 : ra_MOK l X mi_R_isNoHouse c0) (h1 : ra_MOK l X mi_R_isOutside c1) (h2 : ra_MOK l X mi_J_bitCount c2) (h3 : ra_MOK l X mi_Mo_isTried c3) (h4 : ra_MOK l X mi_Mo_tryAll c4) (F : ra_Fx X p rm_R_dry s m args c prog_1_method_16_code 4 cn_R) (hr : meth.sig.returnType = (some .int)) (hlk : meth.locks = false) : ra_At X p l e rm_R_dry s m args below meth c 4 (MQ below (ra_Qc X Z) args s 0 0 (ra_A X)) (b_R_dry_27 c0 c1 c2 c3 c4 Z) 27 :=
  r_bipush F d_R_dry_27 (by decide) <| r_ireturn F hr hlk d_R_dry_29
theorem o_R_dry_18 {X : ra_X} {p : Program} {l : Launch} {e : Env} {s : State} {m : MethodId} {args : Array Value} {below : List Frame} {meth : Method} {c : Code} {Z : ra_R} {c0 c1 c2 c3 c4 : ra_Sp}  (h0 : ra_MOK l X mi_R_isNoHouse c0) (h1 : ra_MOK l X mi_R_isOutside c1) (h2 : ra_MOK l X mi_J_bitCount c2) (h3 : ra_MOK l X mi_Mo_isTried c3) (h4 : ra_MOK l X mi_Mo_tryAll c4) (F : ra_Fx X p rm_R_dry s m args c prog_1_method_16_code 4 cn_R) (hr : meth.sig.returnType = (some .int)) (hlk : meth.locks = false) : ra_At X p l e rm_R_dry s m args below meth c 4 (MQ below (ra_Qc X Z) args s 0 0 (ra_A X)) (b_R_dry_18 c0 c1 c2 c3 c4 Z) 18 :=
  r_iload_n F d_R_dry_18 rfl <| r_iconst F d_R_dry_19 (by decide) <| r_iconst F d_R_dry_20 (by decide) <| r_callS F h1 (co_R_isOutside (by decide +kernel) (by decide +kernel)) ⟨rfl, by decide +kernel⟩ ml_R_73 st_R_isOutside d_R_dry_21 <| r_if_eq F d_R_dry_24 (by decide) (o_R_dry_30 h0 h1 h2 h3 h4 F hr hlk) (o_R_dry_27 h0 h1 h2 h3 h4 F hr hlk)
theorem o_R_dry_8 {X : ra_X} {p : Program} {l : Launch} {e : Env} {s : State} {m : MethodId} {args : Array Value} {below : List Frame} {meth : Method} {c : Code} {Z : ra_R} {c0 c1 c2 c3 c4 : ra_Sp}  (h0 : ra_MOK l X mi_R_isNoHouse c0) (h1 : ra_MOK l X mi_R_isOutside c1) (h2 : ra_MOK l X mi_J_bitCount c2) (h3 : ra_MOK l X mi_Mo_isTried c3) (h4 : ra_MOK l X mi_Mo_tryAll c4) (F : ra_Fx X p rm_R_dry s m args c prog_1_method_16_code 4 cn_R) (hr : meth.sig.returnType = (some .int)) (hlk : meth.locks = false) : ra_At X p l e rm_R_dry s m args below meth c 4 (MQ below (ra_Qc X Z) args s 0 0 (ra_A X)) (b_R_dry_8 c0 c1 c2 c3 c4 Z) 8 :=
  r_iload_n F d_R_dry_8 rfl <| r_iconst F d_R_dry_9 (by decide) <| r_bipush F d_R_dry_10 (by decide) <| r_callS F h1 (co_R_isOutside (by decide +kernel) (by decide +kernel)) ⟨rfl, by decide +kernel⟩ ml_R_73 st_R_isOutside d_R_dry_12 <| r_if_ne F d_R_dry_15 (by decide) (o_R_dry_27 h0 h1 h2 h3 h4 F hr hlk) (o_R_dry_18 h0 h1 h2 h3 h4 F hr hlk)
theorem o_R_dry_0 {X : ra_X} {p : Program} {l : Launch} {e : Env} {s : State} {m : MethodId} {args : Array Value} {below : List Frame} {meth : Method} {c : Code} {Z : ra_R} {c0 c1 c2 c3 c4 : ra_Sp}  (h0 : ra_MOK l X mi_R_isNoHouse c0) (h1 : ra_MOK l X mi_R_isOutside c1) (h2 : ra_MOK l X mi_J_bitCount c2) (h3 : ra_MOK l X mi_Mo_isTried c3) (h4 : ra_MOK l X mi_Mo_tryAll c4) (F : ra_Fx X p rm_R_dry s m args c prog_1_method_16_code 4 cn_R) (hr : meth.sig.returnType = (some .int)) (hlk : meth.locks = false) : ra_At X p l e rm_R_dry s m args below meth c 4 (MQ below (ra_Qc X Z) args s 0 0 (ra_A X)) (b_R_dry_0 c0 c1 c2 c3 c4 Z) 0 :=
  r_aload_n F d_R_dry_0 rfl <| r_iload_n F d_R_dry_1 rfl <| r_callV F h0 (co_R_isNoHouse (by decide +kernel) (by decide +kernel)) ⟨rfl, by decide +kernel⟩ ⟨rfl, by decide⟩ ml_R_96 im_R_isNoHouse se_R_isNoHouse d_R_dry_2 <| r_if_ne F d_R_dry_5 (by decide) (o_R_dry_27 h0 h1 h2 h3 h4 F hr hlk) (o_R_dry_8 h0 h1 h2 h3 h4 F hr hlk)
theorem g_R_dry {l : Launch} {X : ra_X} {c0 c1 c2 c3 c4 : ra_Sp}  (h0 : ra_MOK l X mi_R_isNoHouse c0) (h1 : ra_MOK l X mi_R_isOutside c1) (h2 : ra_MOK l X mi_J_bitCount c2) (h3 : ra_MOK l X mi_Mo_isTried c3) (h4 : ra_MOK l X mi_Mo_tryAll c4) (sp : ra_Sp) (ve : ∀ as σ Z, ra_c1 as = true → as.length = 4 → sp as σ Z → b_R_dry_0 c0 c1 c2 c3 c4 Z (ra_pad 4 as) [] σ) : ra_MOK l X mi_R_dry sp := by
  refine ra_enter (k := fun Z as σ => b_R_dry_0 c0 c1 c2 c3 c4 Z) cn_R rfl (by decide +kernel) ⟨by decide +kernel, by decide +kernel⟩ (by decide +kernel) ?_ ve
  intro p e s m args below meth c Z as σ hsp F hr hlk
  exact o_R_dry_0 h0 h1 h2 h3 h4 F hr hlk

theorem d_R_isNoNumber_0 : decode prog_1_method_39_code 0 = .ok (.iload_n 0, 1) := by decide +kernel
theorem d_R_isNoNumber_1 : decode prog_1_method_39_code 1 = .ok (.iconst 0, 1) := by decide +kernel
theorem d_R_isNoNumber_2 : decode prog_1_method_39_code 2 = .ok (.bipush 7, 2) := by decide +kernel
theorem d_R_isNoNumber_4 : decode prog_1_method_39_code 4 = .ok (.invokestatic 73, 3) := by decide +kernel
theorem d_R_isNoNumber_7 : decode prog_1_method_39_code 7 = .ok (.ireturn, 1) := by decide +kernel
def b_R_isNoNumber_0 (c0 : ra_Sp) (Z : ra_R) : ra_K := w_il 0 <| w_c 0 <| w_c 7 <| w_cs c0 3 <| w_zr Z
theorem o_R_isNoNumber_0 {X : ra_X} {p : Program} {l : Launch} {e : Env} {s : State} {m : MethodId} {args : Array Value} {below : List Frame} {meth : Method} {c : Code} {Z : ra_R} {c0 : ra_Sp}  (h0 : ra_MOK l X mi_R_isOutside c0) (F : ra_Fx X p rm_R_isNoNumber s m args c prog_1_method_39_code 1 cn_R) (hr : meth.sig.returnType = (some .boolean)) (hlk : meth.locks = false) : ra_At X p l e rm_R_isNoNumber s m args below meth c 1 (MQ below (ra_Qc X Z) args s 0 0 (ra_A X)) (b_R_isNoNumber_0 c0 Z) 0 :=
  r_iload_n F d_R_isNoNumber_0 rfl <| r_iconst F d_R_isNoNumber_1 (by decide) <| r_bipush F d_R_isNoNumber_2 (by decide) <| r_callS F h0 (co_R_isOutside (by decide +kernel) (by decide +kernel)) ⟨rfl, by decide +kernel⟩ ml_R_73 st_R_isOutside d_R_isNoNumber_4 <| r_zreturn F hr hlk d_R_isNoNumber_7
theorem g_R_isNoNumber {l : Launch} {X : ra_X} {c0 : ra_Sp}  (h0 : ra_MOK l X mi_R_isOutside c0) (sp : ra_Sp) (ve : ∀ as σ Z, ra_c1 as = true → as.length = 1 → sp as σ Z → b_R_isNoNumber_0 c0 Z (ra_pad 1 as) [] σ) : ra_MOK l X mi_R_isNoNumber sp := by
  refine ra_enter (k := fun Z as σ => b_R_isNoNumber_0 c0 Z) cn_R rfl (by decide +kernel) ⟨by decide +kernel, by decide +kernel⟩ (by decide +kernel) ?_ ve
  intro p e s m args below meth c Z as σ hsp F hr hlk
  exact o_R_isNoNumber_0 h0 F hr hlk

theorem d_Ex_change_0 : decode prog_3_method_2_code 0 = .ok (.aload_n 0, 1) := by decide +kernel
theorem d_Ex_change_1 : decode prog_3_method_2_code 1 = .ok (.getfield 11, 3) := by decide +kernel
theorem d_Ex_change_4 : decode prog_3_method_2_code 4 = .ok (.iload_n 1, 1) := by decide +kernel
theorem d_Ex_change_5 : decode prog_3_method_2_code 5 = .ok (.aaload, 1) := by decide +kernel
theorem d_Ex_change_6 : decode prog_3_method_2_code 6 = .ok (.iload_n 2, 1) := by decide +kernel
theorem d_Ex_change_7 : decode prog_3_method_2_code 7 = .ok (.iaload, 1) := by decide +kernel
theorem d_Ex_change_8 : decode prog_3_method_2_code 8 = .ok (.istore 4, 2) := by decide +kernel
theorem d_Ex_change_10 : decode prog_3_method_2_code 10 = .ok (.aload_n 0, 1) := by decide +kernel
theorem d_Ex_change_11 : decode prog_3_method_2_code 11 = .ok (.getfield 11, 3) := by decide +kernel
theorem d_Ex_change_14 : decode prog_3_method_2_code 14 = .ok (.iload_n 1, 1) := by decide +kernel
theorem d_Ex_change_15 : decode prog_3_method_2_code 15 = .ok (.aaload, 1) := by decide +kernel
theorem d_Ex_change_16 : decode prog_3_method_2_code 16 = .ok (.iload_n 2, 1) := by decide +kernel
theorem d_Ex_change_17 : decode prog_3_method_2_code 17 = .ok (.iload_n 3, 1) := by decide +kernel
theorem d_Ex_change_18 : decode prog_3_method_2_code 18 = .ok (.iastore, 1) := by decide +kernel
theorem d_Ex_change_19 : decode prog_3_method_2_code 19 = .ok (.aload_n 0, 1) := by decide +kernel
theorem d_Ex_change_20 : decode prog_3_method_2_code 20 = .ok (.dup, 1) := by decide +kernel
theorem d_Ex_change_21 : decode prog_3_method_2_code 21 = .ok (.getfield 37, 3) := by decide +kernel
theorem d_Ex_change_24 : decode prog_3_method_2_code 24 = .ok (.iconst 1, 1) := by decide +kernel
theorem d_Ex_change_25 : decode prog_3_method_2_code 25 = .ok (.iadd, 1) := by decide +kernel
theorem d_Ex_change_26 : decode prog_3_method_2_code 26 = .ok (.putfield 37, 3) := by decide +kernel
theorem d_Ex_change_29 : decode prog_3_method_2_code 29 = .ok (.iload 4, 2) := by decide +kernel
theorem d_Ex_change_31 : decode prog_3_method_2_code 31 = .ok (.ireturn, 1) := by decide +kernel
def b_Ex_change_0 (Z : ra_R) : ra_K := w_al 0 <| w_gr 7 1 <| w_il 1 <| w_rld 2 <| w_il 2 <| w_ald <| w_is 4 <| w_al 0 <| w_gr 7 1 <| w_il 1 <| w_rld 2 <| w_il 2 <| w_il 3 <| w_ast <| w_al 0 <| w_dup <| w_gi 7 8 <| w_c 1 <| w_i2 (fun x y => x + y) <| w_pi 7 8 <| w_il 4 <| w_ir Z
theorem o_Ex_change_0 {X : ra_X} {p : Program} {l : Launch} {e : Env} {s : State} {m : MethodId} {args : Array Value} {below : List Frame} {meth : Method} {c : Code} {Z : ra_R}  (F : ra_Fx X p rm_Ex_change s m args c prog_3_method_2_code 5 cn_Ex) (hr : meth.sig.returnType = (some .int)) (hlk : meth.locks = false) : ra_At X p l e rm_Ex_change s m args below meth c 5 (MQ below (ra_Qc X Z) args s 0 0 (ra_A X)) (b_Ex_change_0 Z) 0 :=
  r_aload_n F d_Ex_change_0 rfl <| r_getR F cg_Ex (j := 1) (by decide) rfl fl_Ex_11 d_Ex_change_1 <| r_iload_n F d_Ex_change_4 rfl <| r_aaloadI F d_Ex_change_5 <| r_iload_n F d_Ex_change_6 rfl <| r_iaload F d_Ex_change_7 <| r_istore F d_Ex_change_8 (by decide) <| r_aload_n F d_Ex_change_10 rfl <| r_getR F cg_Ex (j := 1) (by decide) rfl fl_Ex_11 d_Ex_change_11 <| r_iload_n F d_Ex_change_14 rfl <| r_aaloadI F d_Ex_change_15 <| r_iload_n F d_Ex_change_16 rfl <| r_iload_n F d_Ex_change_17 rfl <| r_iastore F d_Ex_change_18 <| r_aload_n F d_Ex_change_19 rfl <| r_dup F d_Ex_change_20 <| r_getI F cg_Ex (j := 8) (by decide) rfl fl_Ex_37 d_Ex_change_21 <| r_iconst F d_Ex_change_24 (by decide) <| r_iadd F d_Ex_change_25 <| r_putI F cg_Ex (j := 8) (by decide) rfl rfl rfl fl_Ex_37 d_Ex_change_26 <| r_iload F d_Ex_change_29 <| r_ireturn F hr hlk d_Ex_change_31
theorem g_Ex_change {l : Launch} {X : ra_X}  (sp : ra_Sp) (ve : ∀ as σ Z, ra_c1 as = true → as.length = 4 → sp as σ Z → b_Ex_change_0 Z (ra_pad 5 as) [] σ) : ra_MOK l X mi_Ex_change sp := by
  refine ra_enter (k := fun Z as σ => b_Ex_change_0 Z) cn_Ex rfl (by decide +kernel) ⟨by decide +kernel, by decide +kernel⟩ (by decide +kernel) ?_ ve
  intro p e s m args below meth c Z as σ hsp F hr hlk
  exact o_Ex_change_0 F hr hlk

theorem d_R_wish_0 : decode prog_1_method_17_code 0 = .ok (.iload_n 1, 1) := by decide +kernel
theorem d_R_wish_1 : decode prog_1_method_17_code 1 = .ok (.invokestatic 179, 3) := by decide +kernel
theorem d_R_wish_4 : decode prog_1_method_17_code 4 = .ok (.ifCond .ne 20, 3) := by decide +kernel
theorem d_R_wish_7 : decode prog_1_method_17_code 7 = .ok (.iload_n 2, 1) := by decide +kernel
theorem d_R_wish_8 : decode prog_1_method_17_code 8 = .ok (.invokestatic 179, 3) := by decide +kernel
theorem d_R_wish_11 : decode prog_1_method_17_code 11 = .ok (.ifCond .ne 13, 3) := by decide +kernel
theorem d_R_wish_14 : decode prog_1_method_17_code 14 = .ok (.iload_n 3, 1) := by decide +kernel
theorem d_R_wish_15 : decode prog_1_method_17_code 15 = .ok (.iconst 0, 1) := by decide +kernel
theorem d_R_wish_16 : decode prog_1_method_17_code 16 = .ok (.bipush 9, 2) := by decide +kernel
theorem d_R_wish_18 : decode prog_1_method_17_code 18 = .ok (.invokestatic 73, 3) := by decide +kernel
theorem d_R_wish_21 : decode prog_1_method_17_code 21 = .ok (.ifCond .eq 6, 3) := by decide +kernel
theorem d_R_wish_24 : decode prog_1_method_17_code 24 = .ok (.bipush (-2), 2) := by decide +kernel
theorem d_R_wish_26 : decode prog_1_method_17_code 26 = .ok (.ireturn, 1) := by decide +kernel
theorem d_R_wish_27 : decode prog_1_method_17_code 27 = .ok (.aload_n 0, 1) := by decide +kernel
theorem d_R_wish_28 : decode prog_1_method_17_code 28 = .ok (.getfield 44, 3) := by decide +kernel
theorem d_R_wish_31 : decode prog_1_method_17_code 31 = .ok (.iload_n 1, 1) := by decide +kernel
theorem d_R_wish_32 : decode prog_1_method_17_code 32 = .ok (.iload_n 2, 1) := by decide +kernel
theorem d_R_wish_33 : decode prog_1_method_17_code 33 = .ok (.iload_n 3, 1) := by decide +kernel
theorem d_R_wish_34 : decode prog_1_method_17_code 34 = .ok (.invokevirtual 182, 3) := by decide +kernel
theorem d_R_wish_37 : decode prog_1_method_17_code 37 = .ok (.ireturn, 1) := by decide +kernel
def b_R_wish_27 (c0 c1 c2 : ra_Sp) (Z : ra_R) : ra_K := w_al 0 <| w_gr 0 4 <| w_il 1 <| w_il 2 <| w_il 3 <| w_cv c2 4 7 <| w_ir Z
def b_R_wish_24 (c0 c1 c2 : ra_Sp) (Z : ra_R) : ra_K := w_c (-2) <| w_ir Z
def b_R_wish_14 (c0 c1 c2 : ra_Sp) (Z : ra_R) : ra_K := w_il 3 <| w_c 0 <| w_c 9 <| w_cs c1 3 <| w_b1 (fun x => x = 0) (b_R_wish_27 c0 c1 c2 Z) (b_R_wish_24 c0 c1 c2 Z)
def b_R_wish_7 (c0 c1 c2 : ra_Sp) (Z : ra_R) : ra_K := w_il 2 <| w_cs c0 1 <| w_b1 (fun x => x = 0) (b_R_wish_14 c0 c1 c2 Z) (b_R_wish_24 c0 c1 c2 Z)
def b_R_wish_0 (c0 c1 c2 : ra_Sp) (Z : ra_R) : ra_K := w_il 1 <| w_cs c0 1 <| w_b1 (fun x => x = 0) (b_R_wish_7 c0 c1 c2 Z) (b_R_wish_24 c0 c1 c2 Z)
theorem o_R_wish_27 {X : ra_X} {p : Program} {l : Launch} {e : Env} {s : State} {m : MethodId} {args : Array Value} {below : List Frame} {meth : Method} {c : Code} {Z : ra_R} {c0 c1 c2 : ra_Sp}  (h0 : ra_MOK l X mi_R_isNoNumber c0) (h1 : ra_MOK l X mi_R_isOutside c1) (h2 : ra_MOK l X mi_Ex_change c2) (F : ra_Fx X p rm_R_wish s m args c prog_1_method_17_code 4 cn_R) (hr : meth.sig.returnType = (some .int)) (hlk : meth.locks = false) : ra_At X p l e rm_R_wish s m args below meth c 4 (MQ below (ra_Qc X Z) args s 0 0 (ra_A X)) (b_R_wish_27 c0 c1 c2 Z) 27 :=
  r_aload_n F d_R_wish_27 rfl <| r_getR F cg_R (j := 4) (by decide) rfl fl_R_44 d_R_wish_28 <| r_iload_n F d_R_wish_31 rfl <| r_iload_n F d_R_wish_32 rfl <| r_iload_n F d_R_wish_33 rfl <| r_callV F h2 (co_Ex_change (by decide +kernel) (by decide +kernel)) ⟨rfl, by decide +kernel⟩ ⟨rfl, by decide⟩ ml_R_182 im_Ex_change se_Ex_change d_R_wish_34 <| r_ireturn F hr hlk d_R_wish_37
theorem o_R_wish_24 {X : ra_X} {p : Program} {l : Launch} {e : Env} {s : State} {m : MethodId} {args : Array Value} {below : List Frame} {meth : Method} {c : Code} {Z : ra_R} {c0 c1 c2 : ra_Sp}  (h0 : ra_MOK l X mi_R_isNoNumber c0) (h1 : ra_MOK l X mi_R_isOutside c1) (h2 : ra_MOK l X mi_Ex_change c2) (F : ra_Fx X p rm_R_wish s m args c prog_1_method_17_code 4 cn_R) (hr : meth.sig.returnType = (some .int)) (hlk : meth.locks = false) : ra_At X p l e rm_R_wish s m args below meth c 4 (MQ below (ra_Qc X Z) args s 0 0 (ra_A X)) (b_R_wish_24 c0 c1 c2 Z) 24 :=
  r_bipush F d_R_wish_24 (by decide) <| r_ireturn F hr hlk d_R_wish_26
theorem o_R_wish_14 {X : ra_X} {p : Program} {l : Launch} {e : Env} {s : State} {m : MethodId} {args : Array Value} {below : List Frame} {meth : Method} {c : Code} {Z : ra_R} {c0 c1 c2 : ra_Sp}  (h0 : ra_MOK l X mi_R_isNoNumber c0) (h1 : ra_MOK l X mi_R_isOutside c1) (h2 : ra_MOK l X mi_Ex_change c2) (F : ra_Fx X p rm_R_wish s m args c prog_1_method_17_code 4 cn_R) (hr : meth.sig.returnType = (some .int)) (hlk : meth.locks = false) : ra_At X p l e rm_R_wish s m args below meth c 4 (MQ below (ra_Qc X Z) args s 0 0 (ra_A X)) (b_R_wish_14 c0 c1 c2 Z) 14 :=
  r_iload_n F d_R_wish_14 rfl <| r_iconst F d_R_wish_15 (by decide) <| r_bipush F d_R_wish_16 (by decide) <| r_callS F h1 (co_R_isOutside (by decide +kernel) (by decide +kernel)) ⟨rfl, by decide +kernel⟩ ml_R_73 st_R_isOutside d_R_wish_18 <| r_if_eq F d_R_wish_21 (by decide) (o_R_wish_27 h0 h1 h2 F hr hlk) (o_R_wish_24 h0 h1 h2 F hr hlk)
theorem o_R_wish_7 {X : ra_X} {p : Program} {l : Launch} {e : Env} {s : State} {m : MethodId} {args : Array Value} {below : List Frame} {meth : Method} {c : Code} {Z : ra_R} {c0 c1 c2 : ra_Sp}  (h0 : ra_MOK l X mi_R_isNoNumber c0) (h1 : ra_MOK l X mi_R_isOutside c1) (h2 : ra_MOK l X mi_Ex_change c2) (F : ra_Fx X p rm_R_wish s m args c prog_1_method_17_code 4 cn_R) (hr : meth.sig.returnType = (some .int)) (hlk : meth.locks = false) : ra_At X p l e rm_R_wish s m args below meth c 4 (MQ below (ra_Qc X Z) args s 0 0 (ra_A X)) (b_R_wish_7 c0 c1 c2 Z) 7 :=
  r_iload_n F d_R_wish_7 rfl <| r_callS F h0 (co_R_isNoNumber (by decide +kernel) (by decide +kernel)) ⟨rfl, by decide +kernel⟩ ml_R_179 st_R_isNoNumber d_R_wish_8 <| r_if_ne F d_R_wish_11 (by decide) (o_R_wish_24 h0 h1 h2 F hr hlk) (o_R_wish_14 h0 h1 h2 F hr hlk)
theorem o_R_wish_0 {X : ra_X} {p : Program} {l : Launch} {e : Env} {s : State} {m : MethodId} {args : Array Value} {below : List Frame} {meth : Method} {c : Code} {Z : ra_R} {c0 c1 c2 : ra_Sp}  (h0 : ra_MOK l X mi_R_isNoNumber c0) (h1 : ra_MOK l X mi_R_isOutside c1) (h2 : ra_MOK l X mi_Ex_change c2) (F : ra_Fx X p rm_R_wish s m args c prog_1_method_17_code 4 cn_R) (hr : meth.sig.returnType = (some .int)) (hlk : meth.locks = false) : ra_At X p l e rm_R_wish s m args below meth c 4 (MQ below (ra_Qc X Z) args s 0 0 (ra_A X)) (b_R_wish_0 c0 c1 c2 Z) 0 :=
  r_iload_n F d_R_wish_0 rfl <| r_callS F h0 (co_R_isNoNumber (by decide +kernel) (by decide +kernel)) ⟨rfl, by decide +kernel⟩ ml_R_179 st_R_isNoNumber d_R_wish_1 <| r_if_ne F d_R_wish_4 (by decide) (o_R_wish_24 h0 h1 h2 F hr hlk) (o_R_wish_7 h0 h1 h2 F hr hlk)
theorem g_R_wish {l : Launch} {X : ra_X} {c0 c1 c2 : ra_Sp}  (h0 : ra_MOK l X mi_R_isNoNumber c0) (h1 : ra_MOK l X mi_R_isOutside c1) (h2 : ra_MOK l X mi_Ex_change c2) (sp : ra_Sp) (ve : ∀ as σ Z, ra_c1 as = true → as.length = 4 → sp as σ Z → b_R_wish_0 c0 c1 c2 Z (ra_pad 4 as) [] σ) : ra_MOK l X mi_R_wish sp := by
  refine ra_enter (k := fun Z as σ => b_R_wish_0 c0 c1 c2 Z) cn_R rfl (by decide +kernel) ⟨by decide +kernel, by decide +kernel⟩ (by decide +kernel) ?_ ve
  intro p e s m args below meth c Z as σ hsp F hr hlk
  exact o_R_wish_0 h0 h1 h2 F hr hlk

theorem d_Ex_wouldChange_0 : decode prog_3_method_3_code 0 = .ok (.aload_n 0, 1) := by decide +kernel
theorem d_Ex_wouldChange_1 : decode prog_3_method_3_code 1 = .ok (.getfield 11, 3) := by decide +kernel
theorem d_Ex_wouldChange_4 : decode prog_3_method_3_code 4 = .ok (.iload_n 1, 1) := by decide +kernel
theorem d_Ex_wouldChange_5 : decode prog_3_method_3_code 5 = .ok (.aaload, 1) := by decide +kernel
theorem d_Ex_wouldChange_6 : decode prog_3_method_3_code 6 = .ok (.aload_n 3, 1) := by decide +kernel
theorem d_Ex_wouldChange_7 : decode prog_3_method_3_code 7 = .ok (.iload_n 2, 1) := by decide +kernel
theorem d_Ex_wouldChange_8 : decode prog_3_method_3_code 8 = .ok (.iaload, 1) := by decide +kernel
theorem d_Ex_wouldChange_9 : decode prog_3_method_3_code 9 = .ok (.iaload, 1) := by decide +kernel
theorem d_Ex_wouldChange_10 : decode prog_3_method_3_code 10 = .ok (.aload_n 0, 1) := by decide +kernel
theorem d_Ex_wouldChange_11 : decode prog_3_method_3_code 11 = .ok (.getfield 11, 3) := by decide +kernel
theorem d_Ex_wouldChange_14 : decode prog_3_method_3_code 14 = .ok (.iload_n 1, 1) := by decide +kernel
theorem d_Ex_wouldChange_15 : decode prog_3_method_3_code 15 = .ok (.aaload, 1) := by decide +kernel
theorem d_Ex_wouldChange_16 : decode prog_3_method_3_code 16 = .ok (.aload_n 3, 1) := by decide +kernel
theorem d_Ex_wouldChange_17 : decode prog_3_method_3_code 17 = .ok (.iload_n 1, 1) := by decide +kernel
theorem d_Ex_wouldChange_18 : decode prog_3_method_3_code 18 = .ok (.iaload, 1) := by decide +kernel
theorem d_Ex_wouldChange_19 : decode prog_3_method_3_code 19 = .ok (.iaload, 1) := by decide +kernel
theorem d_Ex_wouldChange_20 : decode prog_3_method_3_code 20 = .ok (.if_icmp .le 30, 3) := by decide +kernel
theorem d_Ex_wouldChange_23 : decode prog_3_method_3_code 23 = .ok (.aload_n 0, 1) := by decide +kernel
theorem d_Ex_wouldChange_24 : decode prog_3_method_3_code 24 = .ok (.getfield 11, 3) := by decide +kernel
theorem d_Ex_wouldChange_27 : decode prog_3_method_3_code 27 = .ok (.iload_n 2, 1) := by decide +kernel
theorem d_Ex_wouldChange_28 : decode prog_3_method_3_code 28 = .ok (.aaload, 1) := by decide +kernel
theorem d_Ex_wouldChange_29 : decode prog_3_method_3_code 29 = .ok (.aload_n 3, 1) := by decide +kernel
theorem d_Ex_wouldChange_30 : decode prog_3_method_3_code 30 = .ok (.iload_n 1, 1) := by decide +kernel
theorem d_Ex_wouldChange_31 : decode prog_3_method_3_code 31 = .ok (.iaload, 1) := by decide +kernel
theorem d_Ex_wouldChange_32 : decode prog_3_method_3_code 32 = .ok (.iaload, 1) := by decide +kernel
theorem d_Ex_wouldChange_33 : decode prog_3_method_3_code 33 = .ok (.aload_n 0, 1) := by decide +kernel
theorem d_Ex_wouldChange_34 : decode prog_3_method_3_code 34 = .ok (.getfield 11, 3) := by decide +kernel
theorem d_Ex_wouldChange_37 : decode prog_3_method_3_code 37 = .ok (.iload_n 2, 1) := by decide +kernel
theorem d_Ex_wouldChange_38 : decode prog_3_method_3_code 38 = .ok (.aaload, 1) := by decide +kernel
theorem d_Ex_wouldChange_39 : decode prog_3_method_3_code 39 = .ok (.aload_n 3, 1) := by decide +kernel
theorem d_Ex_wouldChange_40 : decode prog_3_method_3_code 40 = .ok (.iload_n 2, 1) := by decide +kernel
theorem d_Ex_wouldChange_41 : decode prog_3_method_3_code 41 = .ok (.iaload, 1) := by decide +kernel
theorem d_Ex_wouldChange_42 : decode prog_3_method_3_code 42 = .ok (.iaload, 1) := by decide +kernel
theorem d_Ex_wouldChange_43 : decode prog_3_method_3_code 43 = .ok (.if_icmp .le 7, 3) := by decide +kernel
theorem d_Ex_wouldChange_46 : decode prog_3_method_3_code 46 = .ok (.iconst 1, 1) := by decide +kernel
theorem d_Ex_wouldChange_47 : decode prog_3_method_3_code 47 = .ok (.goto 4, 3) := by decide +kernel
theorem d_Ex_wouldChange_50 : decode prog_3_method_3_code 50 = .ok (.iconst 0, 1) := by decide +kernel
theorem d_Ex_wouldChange_51 : decode prog_3_method_3_code 51 = .ok (.ireturn, 1) := by decide +kernel
def b_Ex_wouldChange_51 (Z : ra_R) : ra_K := w_zr Z
def b_Ex_wouldChange_50 (Z : ra_R) : ra_K := w_c 0 <| (b_Ex_wouldChange_51 Z)
def b_Ex_wouldChange_46 (Z : ra_R) : ra_K := w_c 1 <| (b_Ex_wouldChange_51 Z)
def b_Ex_wouldChange_23 (Z : ra_R) : ra_K := w_al 0 <| w_gr 7 1 <| w_il 2 <| w_rld 2 <| w_al 3 <| w_il 1 <| w_ald <| w_ald <| w_al 0 <| w_gr 7 1 <| w_il 2 <| w_rld 2 <| w_al 3 <| w_il 2 <| w_ald <| w_ald <| w_b2 (fun x y => x ≤ y) (b_Ex_wouldChange_50 Z) (b_Ex_wouldChange_46 Z)
def b_Ex_wouldChange_0 (Z : ra_R) : ra_K := w_al 0 <| w_gr 7 1 <| w_il 1 <| w_rld 2 <| w_al 3 <| w_il 2 <| w_ald <| w_ald <| w_al 0 <| w_gr 7 1 <| w_il 1 <| w_rld 2 <| w_al 3 <| w_il 1 <| w_ald <| w_ald <| w_b2 (fun x y => x ≤ y) (b_Ex_wouldChange_50 Z) (b_Ex_wouldChange_23 Z)
theorem o_Ex_wouldChange_51 {X : ra_X} {p : Program} {l : Launch} {e : Env} {s : State} {m : MethodId} {args : Array Value} {below : List Frame} {meth : Method} {c : Code} {Z : ra_R}  (F : ra_Fx X p rm_Ex_wouldChange s m args c prog_3_method_3_code 4 cn_Ex) (hr : meth.sig.returnType = (some .boolean)) (hlk : meth.locks = false) : ra_At X p l e rm_Ex_wouldChange s m args below meth c 4 (MQ below (ra_Qc X Z) args s 0 0 (ra_A X)) (b_Ex_wouldChange_51 Z) 51 :=
  r_zreturn F hr hlk d_Ex_wouldChange_51
theorem o_Ex_wouldChange_50 {X : ra_X} {p : Program} {l : Launch} {e : Env} {s : State} {m : MethodId} {args : Array Value} {below : List Frame} {meth : Method} {c : Code} {Z : ra_R}  (F : ra_Fx X p rm_Ex_wouldChange s m args c prog_3_method_3_code 4 cn_Ex) (hr : meth.sig.returnType = (some .boolean)) (hlk : meth.locks = false) : ra_At X p l e rm_Ex_wouldChange s m args below meth c 4 (MQ below (ra_Qc X Z) args s 0 0 (ra_A X)) (b_Ex_wouldChange_50 Z) 50 :=
  r_iconst F d_Ex_wouldChange_50 (by decide) <| (o_Ex_wouldChange_51 F hr hlk)
theorem o_Ex_wouldChange_46 {X : ra_X} {p : Program} {l : Launch} {e : Env} {s : State} {m : MethodId} {args : Array Value} {below : List Frame} {meth : Method} {c : Code} {Z : ra_R}  (F : ra_Fx X p rm_Ex_wouldChange s m args c prog_3_method_3_code 4 cn_Ex) (hr : meth.sig.returnType = (some .boolean)) (hlk : meth.locks = false) : ra_At X p l e rm_Ex_wouldChange s m args below meth c 4 (MQ below (ra_Qc X Z) args s 0 0 (ra_A X)) (b_Ex_wouldChange_46 Z) 46 :=
  r_iconst F d_Ex_wouldChange_46 (by decide) <| r_goto F d_Ex_wouldChange_47 (by decide) (o_Ex_wouldChange_51 F hr hlk)
theorem o_Ex_wouldChange_23 {X : ra_X} {p : Program} {l : Launch} {e : Env} {s : State} {m : MethodId} {args : Array Value} {below : List Frame} {meth : Method} {c : Code} {Z : ra_R}  (F : ra_Fx X p rm_Ex_wouldChange s m args c prog_3_method_3_code 4 cn_Ex) (hr : meth.sig.returnType = (some .boolean)) (hlk : meth.locks = false) : ra_At X p l e rm_Ex_wouldChange s m args below meth c 4 (MQ below (ra_Qc X Z) args s 0 0 (ra_A X)) (b_Ex_wouldChange_23 Z) 23 :=
  r_aload_n F d_Ex_wouldChange_23 rfl <| r_getR F cg_Ex (j := 1) (by decide) rfl fl_Ex_11 d_Ex_wouldChange_24 <| r_iload_n F d_Ex_wouldChange_27 rfl <| r_aaloadI F d_Ex_wouldChange_28 <| r_aload_n F d_Ex_wouldChange_29 rfl <| r_iload_n F d_Ex_wouldChange_30 rfl <| r_iaload F d_Ex_wouldChange_31 <| r_iaload F d_Ex_wouldChange_32 <| r_aload_n F d_Ex_wouldChange_33 rfl <| r_getR F cg_Ex (j := 1) (by decide) rfl fl_Ex_11 d_Ex_wouldChange_34 <| r_iload_n F d_Ex_wouldChange_37 rfl <| r_aaloadI F d_Ex_wouldChange_38 <| r_aload_n F d_Ex_wouldChange_39 rfl <| r_iload_n F d_Ex_wouldChange_40 rfl <| r_iaload F d_Ex_wouldChange_41 <| r_iaload F d_Ex_wouldChange_42 <| r_icmp_le F d_Ex_wouldChange_43 (by decide) (o_Ex_wouldChange_50 F hr hlk) (o_Ex_wouldChange_46 F hr hlk)
theorem o_Ex_wouldChange_0 {X : ra_X} {p : Program} {l : Launch} {e : Env} {s : State} {m : MethodId} {args : Array Value} {below : List Frame} {meth : Method} {c : Code} {Z : ra_R}  (F : ra_Fx X p rm_Ex_wouldChange s m args c prog_3_method_3_code 4 cn_Ex) (hr : meth.sig.returnType = (some .boolean)) (hlk : meth.locks = false) : ra_At X p l e rm_Ex_wouldChange s m args below meth c 4 (MQ below (ra_Qc X Z) args s 0 0 (ra_A X)) (b_Ex_wouldChange_0 Z) 0 :=
  r_aload_n F d_Ex_wouldChange_0 rfl <| r_getR F cg_Ex (j := 1) (by decide) rfl fl_Ex_11 d_Ex_wouldChange_1 <| r_iload_n F d_Ex_wouldChange_4 rfl <| r_aaloadI F d_Ex_wouldChange_5 <| r_aload_n F d_Ex_wouldChange_6 rfl <| r_iload_n F d_Ex_wouldChange_7 rfl <| r_iaload F d_Ex_wouldChange_8 <| r_iaload F d_Ex_wouldChange_9 <| r_aload_n F d_Ex_wouldChange_10 rfl <| r_getR F cg_Ex (j := 1) (by decide) rfl fl_Ex_11 d_Ex_wouldChange_11 <| r_iload_n F d_Ex_wouldChange_14 rfl <| r_aaloadI F d_Ex_wouldChange_15 <| r_aload_n F d_Ex_wouldChange_16 rfl <| r_iload_n F d_Ex_wouldChange_17 rfl <| r_iaload F d_Ex_wouldChange_18 <| r_iaload F d_Ex_wouldChange_19 <| r_icmp_le F d_Ex_wouldChange_20 (by decide) (o_Ex_wouldChange_50 F hr hlk) (o_Ex_wouldChange_23 F hr hlk)
theorem g_Ex_wouldChange {l : Launch} {X : ra_X}  (sp : ra_Sp) (ve : ∀ as σ Z, ra_c1 as = true → as.length = 4 → sp as σ Z → b_Ex_wouldChange_0 Z (ra_pad 4 as) [] σ) : ra_MOK l X mi_Ex_wouldChange sp := by
  refine ra_enter (k := fun Z as σ => b_Ex_wouldChange_0 Z) cn_Ex rfl (by decide +kernel) ⟨by decide +kernel, by decide +kernel⟩ (by decide +kernel) ?_ ve
  intro p e s m args below meth c Z as σ hsp F hr hlk
  exact o_Ex_wouldChange_0 F hr hlk

theorem d_R_want_0 : decode prog_1_method_18_code 0 = .ok (.aload_n 0, 1) := by decide +kernel
theorem d_R_want_1 : decode prog_1_method_18_code 1 = .ok (.iload_n 1, 1) := by decide +kernel
theorem d_R_want_2 : decode prog_1_method_18_code 2 = .ok (.invokevirtual 96, 3) := by decide +kernel
theorem d_R_want_5 : decode prog_1_method_18_code 5 = .ok (.ifCond .ne 16, 3) := by decide +kernel
theorem d_R_want_8 : decode prog_1_method_18_code 8 = .ok (.aload_n 0, 1) := by decide +kernel
theorem d_R_want_9 : decode prog_1_method_18_code 9 = .ok (.iload_n 2, 1) := by decide +kernel
theorem d_R_want_10 : decode prog_1_method_18_code 10 = .ok (.invokevirtual 96, 3) := by decide +kernel
theorem d_R_want_13 : decode prog_1_method_18_code 13 = .ok (.ifCond .ne 8, 3) := by decide +kernel
theorem d_R_want_16 : decode prog_1_method_18_code 16 = .ok (.iload_n 1, 1) := by decide +kernel
theorem d_R_want_17 : decode prog_1_method_18_code 17 = .ok (.iload_n 2, 1) := by decide +kernel
theorem d_R_want_18 : decode prog_1_method_18_code 18 = .ok (.if_icmp .ne 6, 3) := by decide +kernel
theorem d_R_want_21 : decode prog_1_method_18_code 21 = .ok (.bipush (-2), 2) := by decide +kernel
theorem d_R_want_23 : decode prog_1_method_18_code 23 = .ok (.ireturn, 1) := by decide +kernel
theorem d_R_want_24 : decode prog_1_method_18_code 24 = .ok (.aload_n 0, 1) := by decide +kernel
theorem d_R_want_25 : decode prog_1_method_18_code 25 = .ok (.getfield 44, 3) := by decide +kernel
theorem d_R_want_28 : decode prog_1_method_18_code 28 = .ok (.iload_n 1, 1) := by decide +kernel
theorem d_R_want_29 : decode prog_1_method_18_code 29 = .ok (.iload_n 2, 1) := by decide +kernel
theorem d_R_want_30 : decode prog_1_method_18_code 30 = .ok (.aload_n 0, 1) := by decide +kernel
theorem d_R_want_31 : decode prog_1_method_18_code 31 = .ok (.getfield 12, 3) := by decide +kernel
theorem d_R_want_34 : decode prog_1_method_18_code 34 = .ok (.getfield 109, 3) := by decide +kernel
theorem d_R_want_37 : decode prog_1_method_18_code 37 = .ok (.invokevirtual 185, 3) := by decide +kernel
theorem d_R_want_40 : decode prog_1_method_18_code 40 = .ok (.ifCond .eq 7, 3) := by decide +kernel
theorem d_R_want_43 : decode prog_1_method_18_code 43 = .ok (.iconst 1, 1) := by decide +kernel
theorem d_R_want_44 : decode prog_1_method_18_code 44 = .ok (.goto 4, 3) := by decide +kernel
theorem d_R_want_47 : decode prog_1_method_18_code 47 = .ok (.iconst 0, 1) := by decide +kernel
theorem d_R_want_48 : decode prog_1_method_18_code 48 = .ok (.ireturn, 1) := by decide +kernel
def b_R_want_48 (c0 c1 : ra_Sp) (Z : ra_R) : ra_K := w_ir Z
def b_R_want_47 (c0 c1 : ra_Sp) (Z : ra_R) : ra_K := w_c 0 <| (b_R_want_48 c0 c1 Z)
def b_R_want_43 (c0 c1 : ra_Sp) (Z : ra_R) : ra_K := w_c 1 <| (b_R_want_48 c0 c1 Z)
def b_R_want_24 (c0 c1 : ra_Sp) (Z : ra_R) : ra_K := w_al 0 <| w_gr 0 4 <| w_il 1 <| w_il 2 <| w_al 0 <| w_gr 0 0 <| w_gr 1 5 <| w_cv c1 4 7 <| w_b1 (fun x => x = 0) (b_R_want_47 c0 c1 Z) (b_R_want_43 c0 c1 Z)
def b_R_want_21 (c0 c1 : ra_Sp) (Z : ra_R) : ra_K := w_c (-2) <| w_ir Z
def b_R_want_16 (c0 c1 : ra_Sp) (Z : ra_R) : ra_K := w_il 1 <| w_il 2 <| w_b2 (fun x y => x = y) (b_R_want_21 c0 c1 Z) (b_R_want_24 c0 c1 Z)
def b_R_want_8 (c0 c1 : ra_Sp) (Z : ra_R) : ra_K := w_al 0 <| w_il 2 <| w_cv c0 2 0 <| w_b1 (fun x => x = 0) (b_R_want_16 c0 c1 Z) (b_R_want_21 c0 c1 Z)
def b_R_want_0 (c0 c1 : ra_Sp) (Z : ra_R) : ra_K := w_al 0 <| w_il 1 <| w_cv c0 2 0 <| w_b1 (fun x => x = 0) (b_R_want_8 c0 c1 Z) (b_R_want_21 c0 c1 Z)
theorem o_R_want_48 {X : ra_X} {p : Program} {l : Launch} {e : Env} {s : State} {m : MethodId} {args : Array Value} {below : List Frame} {meth : Method} {c : Code} {Z : ra_R} {c0 c1 : ra_Sp}  (h0 : ra_MOK l X mi_R_isNoHouse c0) (h1 : ra_MOK l X mi_Ex_wouldChange c1) (F : ra_Fx X p rm_R_want s m args c prog_1_method_18_code 3 cn_R) (hr : meth.sig.returnType = (some .int)) (hlk : meth.locks = false) : ra_At X p l e rm_R_want s m args below meth c 3 (MQ below (ra_Qc X Z) args s 0 0 (ra_A X)) (b_R_want_48 c0 c1 Z) 48 :=
  r_ireturn F hr hlk d_R_want_48
theorem o_R_want_47 {X : ra_X} {p : Program} {l : Launch} {e : Env} {s : State} {m : MethodId} {args : Array Value} {below : List Frame} {meth : Method} {c : Code} {Z : ra_R} {c0 c1 : ra_Sp}  (h0 : ra_MOK l X mi_R_isNoHouse c0) (h1 : ra_MOK l X mi_Ex_wouldChange c1) (F : ra_Fx X p rm_R_want s m args c prog_1_method_18_code 3 cn_R) (hr : meth.sig.returnType = (some .int)) (hlk : meth.locks = false) : ra_At X p l e rm_R_want s m args below meth c 3 (MQ below (ra_Qc X Z) args s 0 0 (ra_A X)) (b_R_want_47 c0 c1 Z) 47 :=
  r_iconst F d_R_want_47 (by decide) <| (o_R_want_48 h0 h1 F hr hlk)
theorem o_R_want_43 {X : ra_X} {p : Program} {l : Launch} {e : Env} {s : State} {m : MethodId} {args : Array Value} {below : List Frame} {meth : Method} {c : Code} {Z : ra_R} {c0 c1 : ra_Sp}  (h0 : ra_MOK l X mi_R_isNoHouse c0) (h1 : ra_MOK l X mi_Ex_wouldChange c1) (F : ra_Fx X p rm_R_want s m args c prog_1_method_18_code 3 cn_R) (hr : meth.sig.returnType = (some .int)) (hlk : meth.locks = false) : ra_At X p l e rm_R_want s m args below meth c 3 (MQ below (ra_Qc X Z) args s 0 0 (ra_A X)) (b_R_want_43 c0 c1 Z) 43 :=
  r_iconst F d_R_want_43 (by decide) <| r_goto F d_R_want_44 (by decide) (o_R_want_48 h0 h1 F hr hlk)
theorem o_R_want_24 {X : ra_X} {p : Program} {l : Launch} {e : Env} {s : State} {m : MethodId} {args : Array Value} {below : List Frame} {meth : Method} {c : Code} {Z : ra_R} {c0 c1 : ra_Sp}  (h0 : ra_MOK l X mi_R_isNoHouse c0) (h1 : ra_MOK l X mi_Ex_wouldChange c1) (F : ra_Fx X p rm_R_want s m args c prog_1_method_18_code 3 cn_R) (hr : meth.sig.returnType = (some .int)) (hlk : meth.locks = false) : ra_At X p l e rm_R_want s m args below meth c 3 (MQ below (ra_Qc X Z) args s 0 0 (ra_A X)) (b_R_want_24 c0 c1 Z) 24 :=
  r_aload_n F d_R_want_24 rfl <| r_getR F cg_R (j := 4) (by decide) rfl fl_R_44 d_R_want_25 <| r_iload_n F d_R_want_28 rfl <| r_iload_n F d_R_want_29 rfl <| r_aload_n F d_R_want_30 rfl <| r_getR F cg_R (j := 0) (by decide) rfl fl_R_12 d_R_want_31 <| r_getR F cg_V (j := 5) (by decide) rfl fl_R_109 d_R_want_34 <| r_callV F h1 (co_Ex_wouldChange (by decide +kernel) (by decide +kernel)) ⟨rfl, by decide +kernel⟩ ⟨rfl, by decide⟩ ml_R_185 im_Ex_wouldChange se_Ex_wouldChange d_R_want_37 <| r_if_eq F d_R_want_40 (by decide) (o_R_want_47 h0 h1 F hr hlk) (o_R_want_43 h0 h1 F hr hlk)
theorem o_R_want_21 {X : ra_X} {p : Program} {l : Launch} {e : Env} {s : State} {m : MethodId} {args : Array Value} {below : List Frame} {meth : Method} {c : Code} {Z : ra_R} {c0 c1 : ra_Sp}  (h0 : ra_MOK l X mi_R_isNoHouse c0) (h1 : ra_MOK l X mi_Ex_wouldChange c1) (F : ra_Fx X p rm_R_want s m args c prog_1_method_18_code 3 cn_R) (hr : meth.sig.returnType = (some .int)) (hlk : meth.locks = false) : ra_At X p l e rm_R_want s m args below meth c 3 (MQ below (ra_Qc X Z) args s 0 0 (ra_A X)) (b_R_want_21 c0 c1 Z) 21 :=
  r_bipush F d_R_want_21 (by decide) <| r_ireturn F hr hlk d_R_want_23
theorem o_R_want_16 {X : ra_X} {p : Program} {l : Launch} {e : Env} {s : State} {m : MethodId} {args : Array Value} {below : List Frame} {meth : Method} {c : Code} {Z : ra_R} {c0 c1 : ra_Sp}  (h0 : ra_MOK l X mi_R_isNoHouse c0) (h1 : ra_MOK l X mi_Ex_wouldChange c1) (F : ra_Fx X p rm_R_want s m args c prog_1_method_18_code 3 cn_R) (hr : meth.sig.returnType = (some .int)) (hlk : meth.locks = false) : ra_At X p l e rm_R_want s m args below meth c 3 (MQ below (ra_Qc X Z) args s 0 0 (ra_A X)) (b_R_want_16 c0 c1 Z) 16 :=
  r_iload_n F d_R_want_16 rfl <| r_iload_n F d_R_want_17 rfl <| r_icmp_ne F d_R_want_18 (by decide) (o_R_want_24 h0 h1 F hr hlk) (o_R_want_21 h0 h1 F hr hlk)
theorem o_R_want_8 {X : ra_X} {p : Program} {l : Launch} {e : Env} {s : State} {m : MethodId} {args : Array Value} {below : List Frame} {meth : Method} {c : Code} {Z : ra_R} {c0 c1 : ra_Sp}  (h0 : ra_MOK l X mi_R_isNoHouse c0) (h1 : ra_MOK l X mi_Ex_wouldChange c1) (F : ra_Fx X p rm_R_want s m args c prog_1_method_18_code 3 cn_R) (hr : meth.sig.returnType = (some .int)) (hlk : meth.locks = false) : ra_At X p l e rm_R_want s m args below meth c 3 (MQ below (ra_Qc X Z) args s 0 0 (ra_A X)) (b_R_want_8 c0 c1 Z) 8 :=
  r_aload_n F d_R_want_8 rfl <| r_iload_n F d_R_want_9 rfl <| r_callV F h0 (co_R_isNoHouse (by decide +kernel) (by decide +kernel)) ⟨rfl, by decide +kernel⟩ ⟨rfl, by decide⟩ ml_R_96 im_R_isNoHouse se_R_isNoHouse d_R_want_10 <| r_if_ne F d_R_want_13 (by decide) (o_R_want_21 h0 h1 F hr hlk) (o_R_want_16 h0 h1 F hr hlk)
theorem o_R_want_0 {X : ra_X} {p : Program} {l : Launch} {e : Env} {s : State} {m : MethodId} {args : Array Value} {below : List Frame} {meth : Method} {c : Code} {Z : ra_R} {c0 c1 : ra_Sp}  (h0 : ra_MOK l X mi_R_isNoHouse c0) (h1 : ra_MOK l X mi_Ex_wouldChange c1) (F : ra_Fx X p rm_R_want s m args c prog_1_method_18_code 3 cn_R) (hr : meth.sig.returnType = (some .int)) (hlk : meth.locks = false) : ra_At X p l e rm_R_want s m args below meth c 3 (MQ below (ra_Qc X Z) args s 0 0 (ra_A X)) (b_R_want_0 c0 c1 Z) 0 :=
  r_aload_n F d_R_want_0 rfl <| r_iload_n F d_R_want_1 rfl <| r_callV F h0 (co_R_isNoHouse (by decide +kernel) (by decide +kernel)) ⟨rfl, by decide +kernel⟩ ⟨rfl, by decide⟩ ml_R_96 im_R_isNoHouse se_R_isNoHouse d_R_want_2 <| r_if_ne F d_R_want_5 (by decide) (o_R_want_21 h0 h1 F hr hlk) (o_R_want_8 h0 h1 F hr hlk)
theorem g_R_want {l : Launch} {X : ra_X} {c0 c1 : ra_Sp}  (h0 : ra_MOK l X mi_R_isNoHouse c0) (h1 : ra_MOK l X mi_Ex_wouldChange c1) (sp : ra_Sp) (ve : ∀ as σ Z, ra_c1 as = true → as.length = 3 → sp as σ Z → b_R_want_0 c0 c1 Z (ra_pad 3 as) [] σ) : ra_MOK l X mi_R_want sp := by
  refine ra_enter (k := fun Z as σ => b_R_want_0 c0 c1 Z) cn_R rfl (by decide +kernel) ⟨by decide +kernel, by decide +kernel⟩ (by decide +kernel) ?_ ve
  intro p e s m args below meth c Z as σ hsp F hr hlk
  exact o_R_want_0 h0 h1 F hr hlk

theorem d_Ex_changeFirstPair_0 : decode prog_3_method_5_code 0 = .ok (.iconst 0, 1) := by decide +kernel
theorem d_Ex_changeFirstPair_1 : decode prog_3_method_5_code 1 = .ok (.istore_n 1, 1) := by decide +kernel
theorem d_Ex_changeFirstPair_2 : decode prog_3_method_5_code 2 = .ok (.iload_n 1, 1) := by decide +kernel
theorem d_Ex_changeFirstPair_3 : decode prog_3_method_5_code 3 = .ok (.aload_n 0, 1) := by decide +kernel
theorem d_Ex_changeFirstPair_4 : decode prog_3_method_5_code 4 = .ok (.getfield 33, 3) := by decide +kernel
theorem d_Ex_changeFirstPair_7 : decode prog_3_method_5_code 7 = .ok (.getfield 46, 3) := by decide +kernel
theorem d_Ex_changeFirstPair_10 : decode prog_3_method_5_code 10 = .ok (.if_icmp .ge 71, 3) := by decide +kernel
theorem d_Ex_changeFirstPair_13 : decode prog_3_method_5_code 13 = .ok (.iload_n 1, 1) := by decide +kernel
theorem d_Ex_changeFirstPair_14 : decode prog_3_method_5_code 14 = .ok (.iconst 1, 1) := by decide +kernel
theorem d_Ex_changeFirstPair_15 : decode prog_3_method_5_code 15 = .ok (.iadd, 1) := by decide +kernel
theorem d_Ex_changeFirstPair_16 : decode prog_3_method_5_code 16 = .ok (.istore_n 2, 1) := by decide +kernel
theorem d_Ex_changeFirstPair_17 : decode prog_3_method_5_code 17 = .ok (.iload_n 2, 1) := by decide +kernel
theorem d_Ex_changeFirstPair_18 : decode prog_3_method_5_code 18 = .ok (.aload_n 0, 1) := by decide +kernel
theorem d_Ex_changeFirstPair_19 : decode prog_3_method_5_code 19 = .ok (.getfield 33, 3) := by decide +kernel
theorem d_Ex_changeFirstPair_22 : decode prog_3_method_5_code 22 = .ok (.getfield 46, 3) := by decide +kernel
theorem d_Ex_changeFirstPair_25 : decode prog_3_method_5_code 25 = .ok (.if_icmp .ge 50, 3) := by decide +kernel
theorem d_Ex_changeFirstPair_28 : decode prog_3_method_5_code 28 = .ok (.aload_n 0, 1) := by decide +kernel
theorem d_Ex_changeFirstPair_29 : decode prog_3_method_5_code 29 = .ok (.iload_n 1, 1) := by decide +kernel
theorem d_Ex_changeFirstPair_30 : decode prog_3_method_5_code 30 = .ok (.iload_n 2, 1) := by decide +kernel
theorem d_Ex_changeFirstPair_31 : decode prog_3_method_5_code 31 = .ok (.aload_n 0, 1) := by decide +kernel
theorem d_Ex_changeFirstPair_32 : decode prog_3_method_5_code 32 = .ok (.getfield 16, 3) := by decide +kernel
theorem d_Ex_changeFirstPair_35 : decode prog_3_method_5_code 35 = .ok (.invokevirtual 65, 3) := by decide +kernel
theorem d_Ex_changeFirstPair_38 : decode prog_3_method_5_code 38 = .ok (.ifCond .eq 31, 3) := by decide +kernel
theorem d_Ex_changeFirstPair_41 : decode prog_3_method_5_code 41 = .ok (.aload_n 0, 1) := by decide +kernel
theorem d_Ex_changeFirstPair_42 : decode prog_3_method_5_code 42 = .ok (.getfield 16, 3) := by decide +kernel
theorem d_Ex_changeFirstPair_45 : decode prog_3_method_5_code 45 = .ok (.iload_n 1, 1) := by decide +kernel
theorem d_Ex_changeFirstPair_46 : decode prog_3_method_5_code 46 = .ok (.iaload, 1) := by decide +kernel
theorem d_Ex_changeFirstPair_47 : decode prog_3_method_5_code 47 = .ok (.istore_n 3, 1) := by decide +kernel
theorem d_Ex_changeFirstPair_48 : decode prog_3_method_5_code 48 = .ok (.aload_n 0, 1) := by decide +kernel
theorem d_Ex_changeFirstPair_49 : decode prog_3_method_5_code 49 = .ok (.getfield 16, 3) := by decide +kernel
theorem d_Ex_changeFirstPair_52 : decode prog_3_method_5_code 52 = .ok (.iload_n 1, 1) := by decide +kernel
theorem d_Ex_changeFirstPair_53 : decode prog_3_method_5_code 53 = .ok (.aload_n 0, 1) := by decide +kernel
theorem d_Ex_changeFirstPair_54 : decode prog_3_method_5_code 54 = .ok (.getfield 16, 3) := by decide +kernel
theorem d_Ex_changeFirstPair_57 : decode prog_3_method_5_code 57 = .ok (.iload_n 2, 1) := by decide +kernel
theorem d_Ex_changeFirstPair_58 : decode prog_3_method_5_code 58 = .ok (.iaload, 1) := by decide +kernel
theorem d_Ex_changeFirstPair_59 : decode prog_3_method_5_code 59 = .ok (.iastore, 1) := by decide +kernel
theorem d_Ex_changeFirstPair_60 : decode prog_3_method_5_code 60 = .ok (.aload_n 0, 1) := by decide +kernel
theorem d_Ex_changeFirstPair_61 : decode prog_3_method_5_code 61 = .ok (.getfield 16, 3) := by decide +kernel
theorem d_Ex_changeFirstPair_64 : decode prog_3_method_5_code 64 = .ok (.iload_n 2, 1) := by decide +kernel
theorem d_Ex_changeFirstPair_65 : decode prog_3_method_5_code 65 = .ok (.iload_n 3, 1) := by decide +kernel
theorem d_Ex_changeFirstPair_66 : decode prog_3_method_5_code 66 = .ok (.iastore, 1) := by decide +kernel
theorem d_Ex_changeFirstPair_67 : decode prog_3_method_5_code 67 = .ok (.iconst 1, 1) := by decide +kernel
theorem d_Ex_changeFirstPair_68 : decode prog_3_method_5_code 68 = .ok (.ireturn, 1) := by decide +kernel
theorem d_Ex_changeFirstPair_69 : decode prog_3_method_5_code 69 = .ok (.iinc 2 1, 3) := by decide +kernel
theorem d_Ex_changeFirstPair_72 : decode prog_3_method_5_code 72 = .ok (.goto (-55), 3) := by decide +kernel
theorem d_Ex_changeFirstPair_75 : decode prog_3_method_5_code 75 = .ok (.iinc 1 1, 3) := by decide +kernel
theorem d_Ex_changeFirstPair_78 : decode prog_3_method_5_code 78 = .ok (.goto (-76), 3) := by decide +kernel
theorem d_Ex_changeFirstPair_81 : decode prog_3_method_5_code 81 = .ok (.iconst 0, 1) := by decide +kernel
theorem d_Ex_changeFirstPair_82 : decode prog_3_method_5_code 82 = .ok (.ireturn, 1) := by decide +kernel
def b_Ex_changeFirstPair_81 (c0 : ra_Sp) (I : Nat → ra_K) (Z : ra_R) : ra_K := w_c 0 <| w_zr Z
def b_Ex_changeFirstPair_75 (c0 : ra_Sp) (I : Nat → ra_K) (Z : ra_R) : ra_K := w_inc 1 1 <| (I 2)
def b_Ex_changeFirstPair_69 (c0 : ra_Sp) (I : Nat → ra_K) (Z : ra_R) : ra_K := w_inc 2 1 <| (I 17)
def b_Ex_changeFirstPair_41 (c0 : ra_Sp) (I : Nat → ra_K) (Z : ra_R) : ra_K := w_al 0 <| w_gr 7 2 <| w_il 1 <| w_ald <| w_is 3 <| w_al 0 <| w_gr 7 2 <| w_il 1 <| w_al 0 <| w_gr 7 2 <| w_il 2 <| w_ald <| w_ast <| w_al 0 <| w_gr 7 2 <| w_il 2 <| w_il 3 <| w_ast <| w_c 1 <| w_zr Z
def b_Ex_changeFirstPair_28 (c0 : ra_Sp) (I : Nat → ra_K) (Z : ra_R) : ra_K := w_al 0 <| w_il 1 <| w_il 2 <| w_al 0 <| w_gr 7 2 <| w_cv c0 4 7 <| w_b1 (fun x => x = 0) (b_Ex_changeFirstPair_69 c0 I Z) (b_Ex_changeFirstPair_41 c0 I Z)
def b_Ex_changeFirstPair_17 (c0 : ra_Sp) (I : Nat → ra_K) (Z : ra_R) : ra_K := w_il 2 <| w_al 0 <| w_gr 7 0 <| w_gi 1 8 <| w_b2 (fun x y => y ≤ x) (b_Ex_changeFirstPair_75 c0 I Z) (b_Ex_changeFirstPair_28 c0 I Z)
def b_Ex_changeFirstPair_13 (c0 : ra_Sp) (I : Nat → ra_K) (Z : ra_R) : ra_K := w_il 1 <| w_c 1 <| w_i2 (fun x y => x + y) <| w_is 2 <| (I 17)
def b_Ex_changeFirstPair_2 (c0 : ra_Sp) (I : Nat → ra_K) (Z : ra_R) : ra_K := w_il 1 <| w_al 0 <| w_gr 7 0 <| w_gi 1 8 <| w_b2 (fun x y => y ≤ x) (b_Ex_changeFirstPair_81 c0 I Z) (b_Ex_changeFirstPair_13 c0 I Z)
def b_Ex_changeFirstPair_0 (c0 : ra_Sp) (I : Nat → ra_K) (Z : ra_R) : ra_K := w_c 0 <| w_is 1 <| (I 2)
theorem o_Ex_changeFirstPair_81 {X : ra_X} {p : Program} {l : Launch} {e : Env} {s : State} {m : MethodId} {args : Array Value} {below : List Frame} {meth : Method} {c : Code} {Z : ra_R} {c0 : ra_Sp}  (h0 : ra_MOK l X mi_Ex_wouldChange c0) (F : ra_Fx X p rm_Ex_changeFirstPair s m args c prog_3_method_5_code 4 cn_Ex) (hr : meth.sig.returnType = (some .boolean)) (hlk : meth.locks = false) {I : Nat → ra_K} (hI : ∀ t ∈ [2, 17], ra_At X p l e rm_Ex_changeFirstPair s m args below meth c 4 (MQ below (ra_Qc X Z) args s 0 0 (ra_A X)) (I t) t) : ra_At X p l e rm_Ex_changeFirstPair s m args below meth c 4 (MQ below (ra_Qc X Z) args s 0 0 (ra_A X)) (b_Ex_changeFirstPair_81 c0 I Z) 81 :=
  r_iconst F d_Ex_changeFirstPair_81 (by decide) <| r_zreturn F hr hlk d_Ex_changeFirstPair_82
theorem o_Ex_changeFirstPair_75 {X : ra_X} {p : Program} {l : Launch} {e : Env} {s : State} {m : MethodId} {args : Array Value} {below : List Frame} {meth : Method} {c : Code} {Z : ra_R} {c0 : ra_Sp}  (h0 : ra_MOK l X mi_Ex_wouldChange c0) (F : ra_Fx X p rm_Ex_changeFirstPair s m args c prog_3_method_5_code 4 cn_Ex) (hr : meth.sig.returnType = (some .boolean)) (hlk : meth.locks = false) {I : Nat → ra_K} (hI : ∀ t ∈ [2, 17], ra_At X p l e rm_Ex_changeFirstPair s m args below meth c 4 (MQ below (ra_Qc X Z) args s 0 0 (ra_A X)) (I t) t) : ra_At X p l e rm_Ex_changeFirstPair s m args below meth c 4 (MQ below (ra_Qc X Z) args s 0 0 (ra_A X)) (b_Ex_changeFirstPair_75 c0 I Z) 75 :=
  r_iinc F d_Ex_changeFirstPair_75 (by decide) (by decide) <| r_goto F d_Ex_changeFirstPair_78 (by decide) (hI 2 (by decide))
theorem o_Ex_changeFirstPair_69 {X : ra_X} {p : Program} {l : Launch} {e : Env} {s : State} {m : MethodId} {args : Array Value} {below : List Frame} {meth : Method} {c : Code} {Z : ra_R} {c0 : ra_Sp}  (h0 : ra_MOK l X mi_Ex_wouldChange c0) (F : ra_Fx X p rm_Ex_changeFirstPair s m args c prog_3_method_5_code 4 cn_Ex) (hr : meth.sig.returnType = (some .boolean)) (hlk : meth.locks = false) {I : Nat → ra_K} (hI : ∀ t ∈ [2, 17], ra_At X p l e rm_Ex_changeFirstPair s m args below meth c 4 (MQ below (ra_Qc X Z) args s 0 0 (ra_A X)) (I t) t) : ra_At X p l e rm_Ex_changeFirstPair s m args below meth c 4 (MQ below (ra_Qc X Z) args s 0 0 (ra_A X)) (b_Ex_changeFirstPair_69 c0 I Z) 69 :=
  r_iinc F d_Ex_changeFirstPair_69 (by decide) (by decide) <| r_goto F d_Ex_changeFirstPair_72 (by decide) (hI 17 (by decide))
theorem o_Ex_changeFirstPair_41 {X : ra_X} {p : Program} {l : Launch} {e : Env} {s : State} {m : MethodId} {args : Array Value} {below : List Frame} {meth : Method} {c : Code} {Z : ra_R} {c0 : ra_Sp}  (h0 : ra_MOK l X mi_Ex_wouldChange c0) (F : ra_Fx X p rm_Ex_changeFirstPair s m args c prog_3_method_5_code 4 cn_Ex) (hr : meth.sig.returnType = (some .boolean)) (hlk : meth.locks = false) {I : Nat → ra_K} (hI : ∀ t ∈ [2, 17], ra_At X p l e rm_Ex_changeFirstPair s m args below meth c 4 (MQ below (ra_Qc X Z) args s 0 0 (ra_A X)) (I t) t) : ra_At X p l e rm_Ex_changeFirstPair s m args below meth c 4 (MQ below (ra_Qc X Z) args s 0 0 (ra_A X)) (b_Ex_changeFirstPair_41 c0 I Z) 41 :=
  r_aload_n F d_Ex_changeFirstPair_41 rfl <| r_getR F cg_Ex (j := 2) (by decide) rfl fl_Ex_16 d_Ex_changeFirstPair_42 <| r_iload_n F d_Ex_changeFirstPair_45 rfl <| r_iaload F d_Ex_changeFirstPair_46 <| r_istore_n F d_Ex_changeFirstPair_47 rfl (by decide) <| r_aload_n F d_Ex_changeFirstPair_48 rfl <| r_getR F cg_Ex (j := 2) (by decide) rfl fl_Ex_16 d_Ex_changeFirstPair_49 <| r_iload_n F d_Ex_changeFirstPair_52 rfl <| r_aload_n F d_Ex_changeFirstPair_53 rfl <| r_getR F cg_Ex (j := 2) (by decide) rfl fl_Ex_16 d_Ex_changeFirstPair_54 <| r_iload_n F d_Ex_changeFirstPair_57 rfl <| r_iaload F d_Ex_changeFirstPair_58 <| r_iastore F d_Ex_changeFirstPair_59 <| r_aload_n F d_Ex_changeFirstPair_60 rfl <| r_getR F cg_Ex (j := 2) (by decide) rfl fl_Ex_16 d_Ex_changeFirstPair_61 <| r_iload_n F d_Ex_changeFirstPair_64 rfl <| r_iload_n F d_Ex_changeFirstPair_65 rfl <| r_iastore F d_Ex_changeFirstPair_66 <| r_iconst F d_Ex_changeFirstPair_67 (by decide) <| r_zreturn F hr hlk d_Ex_changeFirstPair_68
theorem o_Ex_changeFirstPair_28 {X : ra_X} {p : Program} {l : Launch} {e : Env} {s : State} {m : MethodId} {args : Array Value} {below : List Frame} {meth : Method} {c : Code} {Z : ra_R} {c0 : ra_Sp}  (h0 : ra_MOK l X mi_Ex_wouldChange c0) (F : ra_Fx X p rm_Ex_changeFirstPair s m args c prog_3_method_5_code 4 cn_Ex) (hr : meth.sig.returnType = (some .boolean)) (hlk : meth.locks = false) {I : Nat → ra_K} (hI : ∀ t ∈ [2, 17], ra_At X p l e rm_Ex_changeFirstPair s m args below meth c 4 (MQ below (ra_Qc X Z) args s 0 0 (ra_A X)) (I t) t) : ra_At X p l e rm_Ex_changeFirstPair s m args below meth c 4 (MQ below (ra_Qc X Z) args s 0 0 (ra_A X)) (b_Ex_changeFirstPair_28 c0 I Z) 28 :=
  r_aload_n F d_Ex_changeFirstPair_28 rfl <| r_iload_n F d_Ex_changeFirstPair_29 rfl <| r_iload_n F d_Ex_changeFirstPair_30 rfl <| r_aload_n F d_Ex_changeFirstPair_31 rfl <| r_getR F cg_Ex (j := 2) (by decide) rfl fl_Ex_16 d_Ex_changeFirstPair_32 <| r_callV F h0 (co_Ex_wouldChange (by decide +kernel) (by decide +kernel)) ⟨rfl, by decide +kernel⟩ ⟨rfl, by decide⟩ ml_Ex_65 im_Ex_wouldChange se_Ex_wouldChange d_Ex_changeFirstPair_35 <| r_if_eq F d_Ex_changeFirstPair_38 (by decide) (o_Ex_changeFirstPair_69 h0 F hr hlk hI) (o_Ex_changeFirstPair_41 h0 F hr hlk hI)
theorem o_Ex_changeFirstPair_17 {X : ra_X} {p : Program} {l : Launch} {e : Env} {s : State} {m : MethodId} {args : Array Value} {below : List Frame} {meth : Method} {c : Code} {Z : ra_R} {c0 : ra_Sp}  (h0 : ra_MOK l X mi_Ex_wouldChange c0) (F : ra_Fx X p rm_Ex_changeFirstPair s m args c prog_3_method_5_code 4 cn_Ex) (hr : meth.sig.returnType = (some .boolean)) (hlk : meth.locks = false) {I : Nat → ra_K} (hI : ∀ t ∈ [2, 17], ra_At X p l e rm_Ex_changeFirstPair s m args below meth c 4 (MQ below (ra_Qc X Z) args s 0 0 (ra_A X)) (I t) t) : ra_At X p l e rm_Ex_changeFirstPair s m args below meth c 4 (MQ below (ra_Qc X Z) args s 0 0 (ra_A X)) (b_Ex_changeFirstPair_17 c0 I Z) 17 :=
  r_iload_n F d_Ex_changeFirstPair_17 rfl <| r_aload_n F d_Ex_changeFirstPair_18 rfl <| r_getR F cg_Ex (j := 0) (by decide) rfl fl_Ex_33 d_Ex_changeFirstPair_19 <| r_getI F cg_V (j := 8) (by decide) rfl fl_Ex_46 d_Ex_changeFirstPair_22 <| r_icmp_ge F d_Ex_changeFirstPair_25 (by decide) (o_Ex_changeFirstPair_75 h0 F hr hlk hI) (o_Ex_changeFirstPair_28 h0 F hr hlk hI)
theorem o_Ex_changeFirstPair_13 {X : ra_X} {p : Program} {l : Launch} {e : Env} {s : State} {m : MethodId} {args : Array Value} {below : List Frame} {meth : Method} {c : Code} {Z : ra_R} {c0 : ra_Sp}  (h0 : ra_MOK l X mi_Ex_wouldChange c0) (F : ra_Fx X p rm_Ex_changeFirstPair s m args c prog_3_method_5_code 4 cn_Ex) (hr : meth.sig.returnType = (some .boolean)) (hlk : meth.locks = false) {I : Nat → ra_K} (hI : ∀ t ∈ [2, 17], ra_At X p l e rm_Ex_changeFirstPair s m args below meth c 4 (MQ below (ra_Qc X Z) args s 0 0 (ra_A X)) (I t) t) : ra_At X p l e rm_Ex_changeFirstPair s m args below meth c 4 (MQ below (ra_Qc X Z) args s 0 0 (ra_A X)) (b_Ex_changeFirstPair_13 c0 I Z) 13 :=
  r_iload_n F d_Ex_changeFirstPair_13 rfl <| r_iconst F d_Ex_changeFirstPair_14 (by decide) <| r_iadd F d_Ex_changeFirstPair_15 <| r_istore_n F d_Ex_changeFirstPair_16 rfl (by decide) <| (hI 17 (by decide))
theorem o_Ex_changeFirstPair_2 {X : ra_X} {p : Program} {l : Launch} {e : Env} {s : State} {m : MethodId} {args : Array Value} {below : List Frame} {meth : Method} {c : Code} {Z : ra_R} {c0 : ra_Sp}  (h0 : ra_MOK l X mi_Ex_wouldChange c0) (F : ra_Fx X p rm_Ex_changeFirstPair s m args c prog_3_method_5_code 4 cn_Ex) (hr : meth.sig.returnType = (some .boolean)) (hlk : meth.locks = false) {I : Nat → ra_K} (hI : ∀ t ∈ [2, 17], ra_At X p l e rm_Ex_changeFirstPair s m args below meth c 4 (MQ below (ra_Qc X Z) args s 0 0 (ra_A X)) (I t) t) : ra_At X p l e rm_Ex_changeFirstPair s m args below meth c 4 (MQ below (ra_Qc X Z) args s 0 0 (ra_A X)) (b_Ex_changeFirstPair_2 c0 I Z) 2 :=
  r_iload_n F d_Ex_changeFirstPair_2 rfl <| r_aload_n F d_Ex_changeFirstPair_3 rfl <| r_getR F cg_Ex (j := 0) (by decide) rfl fl_Ex_33 d_Ex_changeFirstPair_4 <| r_getI F cg_V (j := 8) (by decide) rfl fl_Ex_46 d_Ex_changeFirstPair_7 <| r_icmp_ge F d_Ex_changeFirstPair_10 (by decide) (o_Ex_changeFirstPair_81 h0 F hr hlk hI) (o_Ex_changeFirstPair_13 h0 F hr hlk hI)
theorem o_Ex_changeFirstPair_0 {X : ra_X} {p : Program} {l : Launch} {e : Env} {s : State} {m : MethodId} {args : Array Value} {below : List Frame} {meth : Method} {c : Code} {Z : ra_R} {c0 : ra_Sp}  (h0 : ra_MOK l X mi_Ex_wouldChange c0) (F : ra_Fx X p rm_Ex_changeFirstPair s m args c prog_3_method_5_code 4 cn_Ex) (hr : meth.sig.returnType = (some .boolean)) (hlk : meth.locks = false) {I : Nat → ra_K} (hI : ∀ t ∈ [2, 17], ra_At X p l e rm_Ex_changeFirstPair s m args below meth c 4 (MQ below (ra_Qc X Z) args s 0 0 (ra_A X)) (I t) t) : ra_At X p l e rm_Ex_changeFirstPair s m args below meth c 4 (MQ below (ra_Qc X Z) args s 0 0 (ra_A X)) (b_Ex_changeFirstPair_0 c0 I Z) 0 :=
  r_iconst F d_Ex_changeFirstPair_0 (by decide) <| r_istore_n F d_Ex_changeFirstPair_1 rfl (by decide) <| (hI 2 (by decide))
theorem g_Ex_changeFirstPair {l : Launch} {X : ra_X} {c0 : ra_Sp}  (h0 : ra_MOK l X mi_Ex_wouldChange c0) (sp : ra_Sp) (I : ra_R → List Value → ra_St → Nat → ra_M → ra_K) (ve : ∀ as σ Z, ra_c1 as = true → as.length = 1 → sp as σ Z → b_Ex_changeFirstPair_0 c0 (ra_I (I Z as σ)) Z (ra_pad 4 as) [] σ) (v2 : ∀ as σ Z, sp as σ Z → ∀ μ L S σ1, I Z as σ 2 μ L S σ1 → b_Ex_changeFirstPair_2 c0 (ra_J (I Z as σ) μ) Z L S σ1) (v17 : ∀ as σ Z, sp as σ Z → ∀ μ L S σ1, I Z as σ 17 μ L S σ1 → b_Ex_changeFirstPair_17 c0 (ra_J (I Z as σ) μ) Z L S σ1) : ra_MOK l X mi_Ex_changeFirstPair sp := by
  refine ra_enter (k := fun Z as σ => b_Ex_changeFirstPair_0 c0 (ra_I (I Z as σ)) Z) cn_Ex rfl (by decide +kernel) ⟨by decide +kernel, by decide +kernel⟩ (by decide +kernel) ?_ ve
  intro p e s m args below meth c Z as σ hsp F hr hlk
  refine o_Ex_changeFirstPair_0 h0 F hr hlk (ra_cuts (b := fun t J => if t = 2 then b_Ex_changeFirstPair_2 c0 J Z else if t = 17 then b_Ex_changeFirstPair_17 c0 J Z else fun _ _ _ => False) ?_ ?_)
  · intro t ht J hJ
    simp only [List.mem_cons, List.not_mem_nil, or_false] at ht
    rcases ht with rfl | rfl
    · exact o_Ex_changeFirstPair_2 h0 F hr hlk hJ
    · exact o_Ex_changeFirstPair_17 h0 F hr hlk hJ
  · intro t ht μ L S σ1 hI
    simp only [List.mem_cons, List.not_mem_nil, or_false] at ht
    rcases ht with rfl | rfl
    · exact v2 as σ Z hsp μ L S σ1 hI
    · exact v17 as σ Z hsp μ L S σ1 hI

theorem d_Ex_bringMarketUp_0 : decode prog_3_method_4_code 0 = .ok (.aload_n 0, 1) := by decide +kernel
theorem d_Ex_bringMarketUp_1 : decode prog_3_method_4_code 1 = .ok (.getfield 33, 3) := by decide +kernel
theorem d_Ex_bringMarketUp_4 : decode prog_3_method_4_code 4 = .ok (.getfield 40, 3) := by decide +kernel
theorem d_Ex_bringMarketUp_7 : decode prog_3_method_4_code 7 = .ok (.aload_n 0, 1) := by decide +kernel
theorem d_Ex_bringMarketUp_8 : decode prog_3_method_4_code 8 = .ok (.getfield 37, 3) := by decide +kernel
theorem d_Ex_bringMarketUp_11 : decode prog_3_method_4_code 11 = .ok (.iadd, 1) := by decide +kernel
theorem d_Ex_bringMarketUp_12 : decode prog_3_method_4_code 12 = .ok (.istore_n 1, 1) := by decide +kernel
theorem d_Ex_bringMarketUp_13 : decode prog_3_method_4_code 13 = .ok (.aload_n 0, 1) := by decide +kernel
theorem d_Ex_bringMarketUp_14 : decode prog_3_method_4_code 14 = .ok (.getfield 26, 3) := by decide +kernel
theorem d_Ex_bringMarketUp_17 : decode prog_3_method_4_code 17 = .ok (.iload_n 1, 1) := by decide +kernel
theorem d_Ex_bringMarketUp_18 : decode prog_3_method_4_code 18 = .ok (.if_icmp .ne 4, 3) := by decide +kernel
theorem d_Ex_bringMarketUp_21 : decode prog_3_method_4_code 21 = .ok (.return_, 1) := by decide +kernel
theorem d_Ex_bringMarketUp_22 : decode prog_3_method_4_code 22 = .ok (.aload_n 0, 1) := by decide +kernel
theorem d_Ex_bringMarketUp_23 : decode prog_3_method_4_code 23 = .ok (.iload_n 1, 1) := by decide +kernel
theorem d_Ex_bringMarketUp_24 : decode prog_3_method_4_code 24 = .ok (.putfield 26, 3) := by decide +kernel
theorem d_Ex_bringMarketUp_27 : decode prog_3_method_4_code 27 = .ok (.aload_n 0, 1) := by decide +kernel
theorem d_Ex_bringMarketUp_28 : decode prog_3_method_4_code 28 = .ok (.getfield 33, 3) := by decide +kernel
theorem d_Ex_bringMarketUp_31 : decode prog_3_method_4_code 31 = .ok (.getfield 43, 3) := by decide +kernel
theorem d_Ex_bringMarketUp_34 : decode prog_3_method_4_code 34 = .ok (.iconst 0, 1) := by decide +kernel
theorem d_Ex_bringMarketUp_35 : decode prog_3_method_4_code 35 = .ok (.aload_n 0, 1) := by decide +kernel
theorem d_Ex_bringMarketUp_36 : decode prog_3_method_4_code 36 = .ok (.getfield 16, 3) := by decide +kernel
theorem d_Ex_bringMarketUp_39 : decode prog_3_method_4_code 39 = .ok (.iconst 0, 1) := by decide +kernel
theorem d_Ex_bringMarketUp_40 : decode prog_3_method_4_code 40 = .ok (.aload_n 0, 1) := by decide +kernel
theorem d_Ex_bringMarketUp_41 : decode prog_3_method_4_code 41 = .ok (.getfield 33, 3) := by decide +kernel
theorem d_Ex_bringMarketUp_44 : decode prog_3_method_4_code 44 = .ok (.getfield 46, 3) := by decide +kernel
theorem d_Ex_bringMarketUp_47 : decode prog_3_method_4_code 47 = .ok (.invokestatic 49, 3) := by decide +kernel
theorem d_Ex_bringMarketUp_50 : decode prog_3_method_4_code 50 = .ok (.aload_n 0, 1) := by decide +kernel
theorem d_Ex_bringMarketUp_51 : decode prog_3_method_4_code 51 = .ok (.iconst 0, 1) := by decide +kernel
theorem d_Ex_bringMarketUp_52 : decode prog_3_method_4_code 52 = .ok (.putfield 55, 3) := by decide +kernel
theorem d_Ex_bringMarketUp_55 : decode prog_3_method_4_code 55 = .ok (.aload_n 0, 1) := by decide +kernel
theorem d_Ex_bringMarketUp_56 : decode prog_3_method_4_code 56 = .ok (.getfield 55, 3) := by decide +kernel
theorem d_Ex_bringMarketUp_59 : decode prog_3_method_4_code 59 = .ok (.sipush 1000, 3) := by decide +kernel
theorem d_Ex_bringMarketUp_62 : decode prog_3_method_4_code 62 = .ok (.if_icmp .ge 23, 3) := by decide +kernel
theorem d_Ex_bringMarketUp_65 : decode prog_3_method_4_code 65 = .ok (.aload_n 0, 1) := by decide +kernel
theorem d_Ex_bringMarketUp_66 : decode prog_3_method_4_code 66 = .ok (.invokevirtual 58, 3) := by decide +kernel
theorem d_Ex_bringMarketUp_69 : decode prog_3_method_4_code 69 = .ok (.ifCond .eq 16, 3) := by decide +kernel
theorem d_Ex_bringMarketUp_72 : decode prog_3_method_4_code 72 = .ok (.aload_n 0, 1) := by decide +kernel
theorem d_Ex_bringMarketUp_73 : decode prog_3_method_4_code 73 = .ok (.dup, 1) := by decide +kernel
theorem d_Ex_bringMarketUp_74 : decode prog_3_method_4_code 74 = .ok (.getfield 55, 3) := by decide +kernel
theorem d_Ex_bringMarketUp_77 : decode prog_3_method_4_code 77 = .ok (.iconst 1, 1) := by decide +kernel
theorem d_Ex_bringMarketUp_78 : decode prog_3_method_4_code 78 = .ok (.iadd, 1) := by decide +kernel
theorem d_Ex_bringMarketUp_79 : decode prog_3_method_4_code 79 = .ok (.putfield 55, 3) := by decide +kernel
theorem d_Ex_bringMarketUp_82 : decode prog_3_method_4_code 82 = .ok (.goto (-27), 3) := by decide +kernel
theorem d_Ex_bringMarketUp_85 : decode prog_3_method_4_code 85 = .ok (.aload_n 0, 1) := by decide +kernel
theorem d_Ex_bringMarketUp_86 : decode prog_3_method_4_code 86 = .ok (.iconst 0, 1) := by decide +kernel
theorem d_Ex_bringMarketUp_87 : decode prog_3_method_4_code 87 = .ok (.putfield 62, 3) := by decide +kernel
theorem d_Ex_bringMarketUp_90 : decode prog_3_method_4_code 90 = .ok (.iconst 0, 1) := by decide +kernel
theorem d_Ex_bringMarketUp_91 : decode prog_3_method_4_code 91 = .ok (.istore_n 2, 1) := by decide +kernel
theorem d_Ex_bringMarketUp_92 : decode prog_3_method_4_code 92 = .ok (.iload_n 2, 1) := by decide +kernel
theorem d_Ex_bringMarketUp_93 : decode prog_3_method_4_code 93 = .ok (.aload_n 0, 1) := by decide +kernel
theorem d_Ex_bringMarketUp_94 : decode prog_3_method_4_code 94 = .ok (.getfield 33, 3) := by decide +kernel
theorem d_Ex_bringMarketUp_97 : decode prog_3_method_4_code 97 = .ok (.getfield 46, 3) := by decide +kernel
theorem d_Ex_bringMarketUp_100 : decode prog_3_method_4_code 100 = .ok (.if_icmp .ge 31, 3) := by decide +kernel
theorem d_Ex_bringMarketUp_103 : decode prog_3_method_4_code 103 = .ok (.aload_n 0, 1) := by decide +kernel
theorem d_Ex_bringMarketUp_104 : decode prog_3_method_4_code 104 = .ok (.dup, 1) := by decide +kernel
theorem d_Ex_bringMarketUp_105 : decode prog_3_method_4_code 105 = .ok (.getfield 62, 3) := by decide +kernel
theorem d_Ex_bringMarketUp_108 : decode prog_3_method_4_code 108 = .ok (.aload_n 0, 1) := by decide +kernel
theorem d_Ex_bringMarketUp_109 : decode prog_3_method_4_code 109 = .ok (.getfield 11, 3) := by decide +kernel
theorem d_Ex_bringMarketUp_112 : decode prog_3_method_4_code 112 = .ok (.iload_n 2, 1) := by decide +kernel
theorem d_Ex_bringMarketUp_113 : decode prog_3_method_4_code 113 = .ok (.aaload, 1) := by decide +kernel
theorem d_Ex_bringMarketUp_114 : decode prog_3_method_4_code 114 = .ok (.aload_n 0, 1) := by decide +kernel
theorem d_Ex_bringMarketUp_115 : decode prog_3_method_4_code 115 = .ok (.getfield 16, 3) := by decide +kernel
theorem d_Ex_bringMarketUp_118 : decode prog_3_method_4_code 118 = .ok (.iload_n 2, 1) := by decide +kernel
theorem d_Ex_bringMarketUp_119 : decode prog_3_method_4_code 119 = .ok (.iaload, 1) := by decide +kernel
theorem d_Ex_bringMarketUp_120 : decode prog_3_method_4_code 120 = .ok (.iaload, 1) := by decide +kernel
theorem d_Ex_bringMarketUp_121 : decode prog_3_method_4_code 121 = .ok (.iadd, 1) := by decide +kernel
theorem d_Ex_bringMarketUp_122 : decode prog_3_method_4_code 122 = .ok (.putfield 62, 3) := by decide +kernel
theorem d_Ex_bringMarketUp_125 : decode prog_3_method_4_code 125 = .ok (.iinc 2 1, 3) := by decide +kernel
theorem d_Ex_bringMarketUp_128 : decode prog_3_method_4_code 128 = .ok (.goto (-36), 3) := by decide +kernel
theorem d_Ex_bringMarketUp_131 : decode prog_3_method_4_code 131 = .ok (.return_, 1) := by decide +kernel
def b_Ex_bringMarketUp_131 (c0 : ra_Sp) (I : Nat → ra_K) (Z : ra_R) : ra_K := w_vr Z
def b_Ex_bringMarketUp_103 (c0 : ra_Sp) (I : Nat → ra_K) (Z : ra_R) : ra_K := w_al 0 <| w_dup <| w_gi 7 6 <| w_al 0 <| w_gr 7 1 <| w_il 2 <| w_rld 2 <| w_al 0 <| w_gr 7 2 <| w_il 2 <| w_ald <| w_ald <| w_i2 (fun x y => x + y) <| w_pi 7 6 <| w_inc 2 1 <| (I 92)
def b_Ex_bringMarketUp_92 (c0 : ra_Sp) (I : Nat → ra_K) (Z : ra_R) : ra_K := w_il 2 <| w_al 0 <| w_gr 7 0 <| w_gi 1 8 <| w_b2 (fun x y => y ≤ x) (b_Ex_bringMarketUp_131 c0 I Z) (b_Ex_bringMarketUp_103 c0 I Z)
def b_Ex_bringMarketUp_85 (c0 : ra_Sp) (I : Nat → ra_K) (Z : ra_R) : ra_K := w_al 0 <| w_c 0 <| w_pi 7 6 <| w_c 0 <| w_is 2 <| (I 92)
def b_Ex_bringMarketUp_72 (c0 : ra_Sp) (I : Nat → ra_K) (Z : ra_R) : ra_K := w_al 0 <| w_dup <| w_gi 7 5 <| w_c 1 <| w_i2 (fun x y => x + y) <| w_pi 7 5 <| (I 55)
def b_Ex_bringMarketUp_65 (c0 : ra_Sp) (I : Nat → ra_K) (Z : ra_R) : ra_K := w_al 0 <| w_cv c0 1 7 <| w_b1 (fun x => x = 0) (b_Ex_bringMarketUp_85 c0 I Z) (b_Ex_bringMarketUp_72 c0 I Z)
def b_Ex_bringMarketUp_55 (c0 : ra_Sp) (I : Nat → ra_K) (Z : ra_R) : ra_K := w_al 0 <| w_gi 7 5 <| w_c 1000 <| w_b2 (fun x y => y ≤ x) (b_Ex_bringMarketUp_85 c0 I Z) (b_Ex_bringMarketUp_65 c0 I Z)
def b_Ex_bringMarketUp_22 (c0 : ra_Sp) (I : Nat → ra_K) (Z : ra_R) : ra_K := w_al 0 <| w_il 1 <| w_pi 7 9 <| w_al 0 <| w_gr 7 0 <| w_gr 1 5 <| w_c 0 <| w_al 0 <| w_gr 7 2 <| w_c 0 <| w_al 0 <| w_gr 7 0 <| w_gi 1 8 <| w_cpy <| w_al 0 <| w_c 0 <| w_pi 7 5 <| (I 55)
def b_Ex_bringMarketUp_21 (c0 : ra_Sp) (I : Nat → ra_K) (Z : ra_R) : ra_K := w_vr Z
def b_Ex_bringMarketUp_0 (c0 : ra_Sp) (I : Nat → ra_K) (Z : ra_R) : ra_K := w_al 0 <| w_gr 7 0 <| w_gi 1 11 <| w_al 0 <| w_gi 7 8 <| w_i2 (fun x y => x + y) <| w_is 1 <| w_al 0 <| w_gi 7 9 <| w_il 1 <| w_b2 (fun x y => x = y) (b_Ex_bringMarketUp_21 c0 I Z) (b_Ex_bringMarketUp_22 c0 I Z)
theorem o_Ex_bringMarketUp_131 {X : ra_X} {p : Program} {l : Launch} {e : Env} {s : State} {m : MethodId} {args : Array Value} {below : List Frame} {meth : Method} {c : Code} {Z : ra_R} {c0 : ra_Sp}  (h0 : ra_MOK l X mi_Ex_changeFirstPair c0) (F : ra_Fx X p rm_Ex_bringMarketUp s m args c prog_3_method_4_code 3 cn_Ex) (hr : meth.sig.returnType = none) (hlk : meth.locks = false) {I : Nat → ra_K} (hI : ∀ t ∈ [55, 92], ra_At X p l e rm_Ex_bringMarketUp s m args below meth c 3 (MQ below (ra_Qc X Z) args s 0 0 (ra_A X)) (I t) t) : ra_At X p l e rm_Ex_bringMarketUp s m args below meth c 3 (MQ below (ra_Qc X Z) args s 0 0 (ra_A X)) (b_Ex_bringMarketUp_131 c0 I Z) 131 :=
  r_return F hr hlk d_Ex_bringMarketUp_131
theorem o_Ex_bringMarketUp_103 {X : ra_X} {p : Program} {l : Launch} {e : Env} {s : State} {m : MethodId} {args : Array Value} {below : List Frame} {meth : Method} {c : Code} {Z : ra_R} {c0 : ra_Sp}  (h0 : ra_MOK l X mi_Ex_changeFirstPair c0) (F : ra_Fx X p rm_Ex_bringMarketUp s m args c prog_3_method_4_code 3 cn_Ex) (hr : meth.sig.returnType = none) (hlk : meth.locks = false) {I : Nat → ra_K} (hI : ∀ t ∈ [55, 92], ra_At X p l e rm_Ex_bringMarketUp s m args below meth c 3 (MQ below (ra_Qc X Z) args s 0 0 (ra_A X)) (I t) t) : ra_At X p l e rm_Ex_bringMarketUp s m args below meth c 3 (MQ below (ra_Qc X Z) args s 0 0 (ra_A X)) (b_Ex_bringMarketUp_103 c0 I Z) 103 :=
  r_aload_n F d_Ex_bringMarketUp_103 rfl <| r_dup F d_Ex_bringMarketUp_104 <| r_getI F cg_Ex (j := 6) (by decide) rfl fl_Ex_62 d_Ex_bringMarketUp_105 <| r_aload_n F d_Ex_bringMarketUp_108 rfl <| r_getR F cg_Ex (j := 1) (by decide) rfl fl_Ex_11 d_Ex_bringMarketUp_109 <| r_iload_n F d_Ex_bringMarketUp_112 rfl <| r_aaloadI F d_Ex_bringMarketUp_113 <| r_aload_n F d_Ex_bringMarketUp_114 rfl <| r_getR F cg_Ex (j := 2) (by decide) rfl fl_Ex_16 d_Ex_bringMarketUp_115 <| r_iload_n F d_Ex_bringMarketUp_118 rfl <| r_iaload F d_Ex_bringMarketUp_119 <| r_iaload F d_Ex_bringMarketUp_120 <| r_iadd F d_Ex_bringMarketUp_121 <| r_putI F cg_Ex (j := 6) (by decide) rfl rfl rfl fl_Ex_62 d_Ex_bringMarketUp_122 <| r_iinc F d_Ex_bringMarketUp_125 (by decide) (by decide) <| r_goto F d_Ex_bringMarketUp_128 (by decide) (hI 92 (by decide))
theorem o_Ex_bringMarketUp_92 {X : ra_X} {p : Program} {l : Launch} {e : Env} {s : State} {m : MethodId} {args : Array Value} {below : List Frame} {meth : Method} {c : Code} {Z : ra_R} {c0 : ra_Sp}  (h0 : ra_MOK l X mi_Ex_changeFirstPair c0) (F : ra_Fx X p rm_Ex_bringMarketUp s m args c prog_3_method_4_code 3 cn_Ex) (hr : meth.sig.returnType = none) (hlk : meth.locks = false) {I : Nat → ra_K} (hI : ∀ t ∈ [55, 92], ra_At X p l e rm_Ex_bringMarketUp s m args below meth c 3 (MQ below (ra_Qc X Z) args s 0 0 (ra_A X)) (I t) t) : ra_At X p l e rm_Ex_bringMarketUp s m args below meth c 3 (MQ below (ra_Qc X Z) args s 0 0 (ra_A X)) (b_Ex_bringMarketUp_92 c0 I Z) 92 :=
  r_iload_n F d_Ex_bringMarketUp_92 rfl <| r_aload_n F d_Ex_bringMarketUp_93 rfl <| r_getR F cg_Ex (j := 0) (by decide) rfl fl_Ex_33 d_Ex_bringMarketUp_94 <| r_getI F cg_V (j := 8) (by decide) rfl fl_Ex_46 d_Ex_bringMarketUp_97 <| r_icmp_ge F d_Ex_bringMarketUp_100 (by decide) (o_Ex_bringMarketUp_131 h0 F hr hlk hI) (o_Ex_bringMarketUp_103 h0 F hr hlk hI)
theorem o_Ex_bringMarketUp_85 {X : ra_X} {p : Program} {l : Launch} {e : Env} {s : State} {m : MethodId} {args : Array Value} {below : List Frame} {meth : Method} {c : Code} {Z : ra_R} {c0 : ra_Sp}  (h0 : ra_MOK l X mi_Ex_changeFirstPair c0) (F : ra_Fx X p rm_Ex_bringMarketUp s m args c prog_3_method_4_code 3 cn_Ex) (hr : meth.sig.returnType = none) (hlk : meth.locks = false) {I : Nat → ra_K} (hI : ∀ t ∈ [55, 92], ra_At X p l e rm_Ex_bringMarketUp s m args below meth c 3 (MQ below (ra_Qc X Z) args s 0 0 (ra_A X)) (I t) t) : ra_At X p l e rm_Ex_bringMarketUp s m args below meth c 3 (MQ below (ra_Qc X Z) args s 0 0 (ra_A X)) (b_Ex_bringMarketUp_85 c0 I Z) 85 :=
  r_aload_n F d_Ex_bringMarketUp_85 rfl <| r_iconst F d_Ex_bringMarketUp_86 (by decide) <| r_putI F cg_Ex (j := 6) (by decide) rfl rfl rfl fl_Ex_62 d_Ex_bringMarketUp_87 <| r_iconst F d_Ex_bringMarketUp_90 (by decide) <| r_istore_n F d_Ex_bringMarketUp_91 rfl (by decide) <| (hI 92 (by decide))
theorem o_Ex_bringMarketUp_72 {X : ra_X} {p : Program} {l : Launch} {e : Env} {s : State} {m : MethodId} {args : Array Value} {below : List Frame} {meth : Method} {c : Code} {Z : ra_R} {c0 : ra_Sp}  (h0 : ra_MOK l X mi_Ex_changeFirstPair c0) (F : ra_Fx X p rm_Ex_bringMarketUp s m args c prog_3_method_4_code 3 cn_Ex) (hr : meth.sig.returnType = none) (hlk : meth.locks = false) {I : Nat → ra_K} (hI : ∀ t ∈ [55, 92], ra_At X p l e rm_Ex_bringMarketUp s m args below meth c 3 (MQ below (ra_Qc X Z) args s 0 0 (ra_A X)) (I t) t) : ra_At X p l e rm_Ex_bringMarketUp s m args below meth c 3 (MQ below (ra_Qc X Z) args s 0 0 (ra_A X)) (b_Ex_bringMarketUp_72 c0 I Z) 72 :=
  r_aload_n F d_Ex_bringMarketUp_72 rfl <| r_dup F d_Ex_bringMarketUp_73 <| r_getI F cg_Ex (j := 5) (by decide) rfl fl_Ex_55 d_Ex_bringMarketUp_74 <| r_iconst F d_Ex_bringMarketUp_77 (by decide) <| r_iadd F d_Ex_bringMarketUp_78 <| r_putI F cg_Ex (j := 5) (by decide) rfl rfl rfl fl_Ex_55 d_Ex_bringMarketUp_79 <| r_goto F d_Ex_bringMarketUp_82 (by decide) (hI 55 (by decide))
theorem o_Ex_bringMarketUp_65 {X : ra_X} {p : Program} {l : Launch} {e : Env} {s : State} {m : MethodId} {args : Array Value} {below : List Frame} {meth : Method} {c : Code} {Z : ra_R} {c0 : ra_Sp}  (h0 : ra_MOK l X mi_Ex_changeFirstPair c0) (F : ra_Fx X p rm_Ex_bringMarketUp s m args c prog_3_method_4_code 3 cn_Ex) (hr : meth.sig.returnType = none) (hlk : meth.locks = false) {I : Nat → ra_K} (hI : ∀ t ∈ [55, 92], ra_At X p l e rm_Ex_bringMarketUp s m args below meth c 3 (MQ below (ra_Qc X Z) args s 0 0 (ra_A X)) (I t) t) : ra_At X p l e rm_Ex_bringMarketUp s m args below meth c 3 (MQ below (ra_Qc X Z) args s 0 0 (ra_A X)) (b_Ex_bringMarketUp_65 c0 I Z) 65 :=
  r_aload_n F d_Ex_bringMarketUp_65 rfl <| r_callV F h0 (co_Ex_changeFirstPair (by decide +kernel) (by decide +kernel)) ⟨rfl, by decide +kernel⟩ ⟨rfl, by decide⟩ ml_Ex_58 im_Ex_changeFirstPair se_Ex_changeFirstPair d_Ex_bringMarketUp_66 <| r_if_eq F d_Ex_bringMarketUp_69 (by decide) (o_Ex_bringMarketUp_85 h0 F hr hlk hI) (o_Ex_bringMarketUp_72 h0 F hr hlk hI)
theorem o_Ex_bringMarketUp_55 {X : ra_X} {p : Program} {l : Launch} {e : Env} {s : State} {m : MethodId} {args : Array Value} {below : List Frame} {meth : Method} {c : Code} {Z : ra_R} {c0 : ra_Sp}  (h0 : ra_MOK l X mi_Ex_changeFirstPair c0) (F : ra_Fx X p rm_Ex_bringMarketUp s m args c prog_3_method_4_code 3 cn_Ex) (hr : meth.sig.returnType = none) (hlk : meth.locks = false) {I : Nat → ra_K} (hI : ∀ t ∈ [55, 92], ra_At X p l e rm_Ex_bringMarketUp s m args below meth c 3 (MQ below (ra_Qc X Z) args s 0 0 (ra_A X)) (I t) t) : ra_At X p l e rm_Ex_bringMarketUp s m args below meth c 3 (MQ below (ra_Qc X Z) args s 0 0 (ra_A X)) (b_Ex_bringMarketUp_55 c0 I Z) 55 :=
  r_aload_n F d_Ex_bringMarketUp_55 rfl <| r_getI F cg_Ex (j := 5) (by decide) rfl fl_Ex_55 d_Ex_bringMarketUp_56 <| r_sipush F d_Ex_bringMarketUp_59 (by decide) <| r_icmp_ge F d_Ex_bringMarketUp_62 (by decide) (o_Ex_bringMarketUp_85 h0 F hr hlk hI) (o_Ex_bringMarketUp_65 h0 F hr hlk hI)
theorem o_Ex_bringMarketUp_22 {X : ra_X} {p : Program} {l : Launch} {e : Env} {s : State} {m : MethodId} {args : Array Value} {below : List Frame} {meth : Method} {c : Code} {Z : ra_R} {c0 : ra_Sp}  (h0 : ra_MOK l X mi_Ex_changeFirstPair c0) (F : ra_Fx X p rm_Ex_bringMarketUp s m args c prog_3_method_4_code 3 cn_Ex) (hr : meth.sig.returnType = none) (hlk : meth.locks = false) {I : Nat → ra_K} (hI : ∀ t ∈ [55, 92], ra_At X p l e rm_Ex_bringMarketUp s m args below meth c 3 (MQ below (ra_Qc X Z) args s 0 0 (ra_A X)) (I t) t) : ra_At X p l e rm_Ex_bringMarketUp s m args below meth c 3 (MQ below (ra_Qc X Z) args s 0 0 (ra_A X)) (b_Ex_bringMarketUp_22 c0 I Z) 22 :=
  r_aload_n F d_Ex_bringMarketUp_22 rfl <| r_iload_n F d_Ex_bringMarketUp_23 rfl <| r_putI F cg_Ex (j := 9) (by decide) rfl rfl rfl fl_Ex_26 d_Ex_bringMarketUp_24 <| r_aload_n F d_Ex_bringMarketUp_27 rfl <| r_getR F cg_Ex (j := 0) (by decide) rfl fl_Ex_33 d_Ex_bringMarketUp_28 <| r_getR F cg_V (j := 5) (by decide) rfl fl_Ex_43 d_Ex_bringMarketUp_31 <| r_iconst F d_Ex_bringMarketUp_34 (by decide) <| r_aload_n F d_Ex_bringMarketUp_35 rfl <| r_getR F cg_Ex (j := 2) (by decide) rfl fl_Ex_16 d_Ex_bringMarketUp_36 <| r_iconst F d_Ex_bringMarketUp_39 (by decide) <| r_aload_n F d_Ex_bringMarketUp_40 rfl <| r_getR F cg_Ex (j := 0) (by decide) rfl fl_Ex_33 d_Ex_bringMarketUp_41 <| r_getI F cg_V (j := 8) (by decide) rfl fl_Ex_46 d_Ex_bringMarketUp_44 <| r_acopy F ml_Ex_49 jw_cpy1 jw_cpy2 jw_sys d_Ex_bringMarketUp_47 <| r_aload_n F d_Ex_bringMarketUp_50 rfl <| r_iconst F d_Ex_bringMarketUp_51 (by decide) <| r_putI F cg_Ex (j := 5) (by decide) rfl rfl rfl fl_Ex_55 d_Ex_bringMarketUp_52 <| (hI 55 (by decide))
theorem o_Ex_bringMarketUp_21 {X : ra_X} {p : Program} {l : Launch} {e : Env} {s : State} {m : MethodId} {args : Array Value} {below : List Frame} {meth : Method} {c : Code} {Z : ra_R} {c0 : ra_Sp}  (h0 : ra_MOK l X mi_Ex_changeFirstPair c0) (F : ra_Fx X p rm_Ex_bringMarketUp s m args c prog_3_method_4_code 3 cn_Ex) (hr : meth.sig.returnType = none) (hlk : meth.locks = false) {I : Nat → ra_K} (hI : ∀ t ∈ [55, 92], ra_At X p l e rm_Ex_bringMarketUp s m args below meth c 3 (MQ below (ra_Qc X Z) args s 0 0 (ra_A X)) (I t) t) : ra_At X p l e rm_Ex_bringMarketUp s m args below meth c 3 (MQ below (ra_Qc X Z) args s 0 0 (ra_A X)) (b_Ex_bringMarketUp_21 c0 I Z) 21 :=
  r_return F hr hlk d_Ex_bringMarketUp_21
theorem o_Ex_bringMarketUp_0 {X : ra_X} {p : Program} {l : Launch} {e : Env} {s : State} {m : MethodId} {args : Array Value} {below : List Frame} {meth : Method} {c : Code} {Z : ra_R} {c0 : ra_Sp}  (h0 : ra_MOK l X mi_Ex_changeFirstPair c0) (F : ra_Fx X p rm_Ex_bringMarketUp s m args c prog_3_method_4_code 3 cn_Ex) (hr : meth.sig.returnType = none) (hlk : meth.locks = false) {I : Nat → ra_K} (hI : ∀ t ∈ [55, 92], ra_At X p l e rm_Ex_bringMarketUp s m args below meth c 3 (MQ below (ra_Qc X Z) args s 0 0 (ra_A X)) (I t) t) : ra_At X p l e rm_Ex_bringMarketUp s m args below meth c 3 (MQ below (ra_Qc X Z) args s 0 0 (ra_A X)) (b_Ex_bringMarketUp_0 c0 I Z) 0 :=
  r_aload_n F d_Ex_bringMarketUp_0 rfl <| r_getR F cg_Ex (j := 0) (by decide) rfl fl_Ex_33 d_Ex_bringMarketUp_1 <| r_getI F cg_V (j := 11) (by decide) rfl fl_Ex_40 d_Ex_bringMarketUp_4 <| r_aload_n F d_Ex_bringMarketUp_7 rfl <| r_getI F cg_Ex (j := 8) (by decide) rfl fl_Ex_37 d_Ex_bringMarketUp_8 <| r_iadd F d_Ex_bringMarketUp_11 <| r_istore_n F d_Ex_bringMarketUp_12 rfl (by decide) <| r_aload_n F d_Ex_bringMarketUp_13 rfl <| r_getI F cg_Ex (j := 9) (by decide) rfl fl_Ex_26 d_Ex_bringMarketUp_14 <| r_iload_n F d_Ex_bringMarketUp_17 rfl <| r_icmp_ne F d_Ex_bringMarketUp_18 (by decide) (o_Ex_bringMarketUp_22 h0 F hr hlk hI) (o_Ex_bringMarketUp_21 h0 F hr hlk hI)
theorem g_Ex_bringMarketUp {l : Launch} {X : ra_X} {c0 : ra_Sp}  (h0 : ra_MOK l X mi_Ex_changeFirstPair c0) (sp : ra_Sp) (I : ra_R → List Value → ra_St → Nat → ra_M → ra_K) (ve : ∀ as σ Z, ra_c1 as = true → as.length = 1 → sp as σ Z → b_Ex_bringMarketUp_0 c0 (ra_I (I Z as σ)) Z (ra_pad 3 as) [] σ) (v55 : ∀ as σ Z, sp as σ Z → ∀ μ L S σ1, I Z as σ 55 μ L S σ1 → b_Ex_bringMarketUp_55 c0 (ra_J (I Z as σ) μ) Z L S σ1) (v92 : ∀ as σ Z, sp as σ Z → ∀ μ L S σ1, I Z as σ 92 μ L S σ1 → b_Ex_bringMarketUp_92 c0 (ra_J (I Z as σ) μ) Z L S σ1) : ra_MOK l X mi_Ex_bringMarketUp sp := by
  refine ra_enter (k := fun Z as σ => b_Ex_bringMarketUp_0 c0 (ra_I (I Z as σ)) Z) cn_Ex rfl (by decide +kernel) ⟨by decide +kernel, by decide +kernel⟩ (by decide +kernel) ?_ ve
  intro p e s m args below meth c Z as σ hsp F hr hlk
  refine o_Ex_bringMarketUp_0 h0 F hr hlk (ra_cuts (b := fun t J => if t = 55 then b_Ex_bringMarketUp_55 c0 J Z else if t = 92 then b_Ex_bringMarketUp_92 c0 J Z else fun _ _ _ => False) ?_ ?_)
  · intro t ht J hJ
    simp only [List.mem_cons, List.not_mem_nil, or_false] at ht
    rcases ht with rfl | rfl
    · exact o_Ex_bringMarketUp_55 h0 F hr hlk hJ
    · exact o_Ex_bringMarketUp_92 h0 F hr hlk hJ
  · intro t ht μ L S σ1 hI
    simp only [List.mem_cons, List.not_mem_nil, or_false] at ht
    rcases ht with rfl | rfl
    · exact v55 as σ Z hsp μ L S σ1 hI
    · exact v92 as σ Z hsp μ L S σ1 hI

theorem d_R_market_0 : decode prog_1_method_19_code 0 = .ok (.iload_n 1, 1) := by decide +kernel
theorem d_R_market_1 : decode prog_1_method_19_code 1 = .ok (.iconst (-1), 1) := by decide +kernel
theorem d_R_market_2 : decode prog_1_method_19_code 2 = .ok (.if_icmp .eq 20, 3) := by decide +kernel
theorem d_R_market_5 : decode prog_1_method_19_code 5 = .ok (.iload_n 1, 1) := by decide +kernel
theorem d_R_market_6 : decode prog_1_method_19_code 6 = .ok (.bipush (-2), 2) := by decide +kernel
theorem d_R_market_8 : decode prog_1_method_19_code 8 = .ok (.if_icmp .eq 14, 3) := by decide +kernel
theorem d_R_market_11 : decode prog_1_method_19_code 11 = .ok (.aload_n 0, 1) := by decide +kernel
theorem d_R_market_12 : decode prog_1_method_19_code 12 = .ok (.iload_n 1, 1) := by decide +kernel
theorem d_R_market_13 : decode prog_1_method_19_code 13 = .ok (.invokevirtual 96, 3) := by decide +kernel
theorem d_R_market_16 : decode prog_1_method_19_code 16 = .ok (.ifCond .eq 6, 3) := by decide +kernel
theorem d_R_market_19 : decode prog_1_method_19_code 19 = .ok (.bipush (-2), 2) := by decide +kernel
theorem d_R_market_21 : decode prog_1_method_19_code 21 = .ok (.ireturn, 1) := by decide +kernel
theorem d_R_market_22 : decode prog_1_method_19_code 22 = .ok (.aload_n 0, 1) := by decide +kernel
theorem d_R_market_23 : decode prog_1_method_19_code 23 = .ok (.getfield 44, 3) := by decide +kernel
theorem d_R_market_26 : decode prog_1_method_19_code 26 = .ok (.invokevirtual 189, 3) := by decide +kernel
theorem d_R_market_29 : decode prog_1_method_19_code 29 = .ok (.iload_n 1, 1) := by decide +kernel
theorem d_R_market_30 : decode prog_1_method_19_code 30 = .ok (.iconst (-1), 1) := by decide +kernel
theorem d_R_market_31 : decode prog_1_method_19_code 31 = .ok (.if_icmp .ne 11, 3) := by decide +kernel
theorem d_R_market_34 : decode prog_1_method_19_code 34 = .ok (.aload_n 0, 1) := by decide +kernel
theorem d_R_market_35 : decode prog_1_method_19_code 35 = .ok (.getfield 44, 3) := by decide +kernel
theorem d_R_market_38 : decode prog_1_method_19_code 38 = .ok (.getfield 192, 3) := by decide +kernel
theorem d_R_market_41 : decode prog_1_method_19_code 41 = .ok (.ireturn, 1) := by decide +kernel
theorem d_R_market_42 : decode prog_1_method_19_code 42 = .ok (.iload_n 1, 1) := by decide +kernel
theorem d_R_market_43 : decode prog_1_method_19_code 43 = .ok (.bipush (-2), 2) := by decide +kernel
theorem d_R_market_45 : decode prog_1_method_19_code 45 = .ok (.if_icmp .ne 13, 3) := by decide +kernel
theorem d_R_market_48 : decode prog_1_method_19_code 48 = .ok (.aload_n 0, 1) := by decide +kernel
theorem d_R_market_49 : decode prog_1_method_19_code 49 = .ok (.getfield 44, 3) := by decide +kernel
theorem d_R_market_52 : decode prog_1_method_19_code 52 = .ok (.getfield 195, 3) := by decide +kernel
theorem d_R_market_55 : decode prog_1_method_19_code 55 = .ok (.goto 12, 3) := by decide +kernel
theorem d_R_market_58 : decode prog_1_method_19_code 58 = .ok (.aload_n 0, 1) := by decide +kernel
theorem d_R_market_59 : decode prog_1_method_19_code 59 = .ok (.getfield 44, 3) := by decide +kernel
theorem d_R_market_62 : decode prog_1_method_19_code 62 = .ok (.getfield 198, 3) := by decide +kernel
theorem d_R_market_65 : decode prog_1_method_19_code 65 = .ok (.iload_n 1, 1) := by decide +kernel
theorem d_R_market_66 : decode prog_1_method_19_code 66 = .ok (.iaload, 1) := by decide +kernel
theorem d_R_market_67 : decode prog_1_method_19_code 67 = .ok (.ireturn, 1) := by decide +kernel
def b_R_market_67 (c0 c1 : ra_Sp) (Z : ra_R) : ra_K := w_ir Z
def b_R_market_58 (c0 c1 : ra_Sp) (Z : ra_R) : ra_K := w_al 0 <| w_gr 0 4 <| w_gr 7 2 <| w_il 1 <| w_ald <| (b_R_market_67 c0 c1 Z)
def b_R_market_48 (c0 c1 : ra_Sp) (Z : ra_R) : ra_K := w_al 0 <| w_gr 0 4 <| w_gi 7 6 <| (b_R_market_67 c0 c1 Z)
def b_R_market_42 (c0 c1 : ra_Sp) (Z : ra_R) : ra_K := w_il 1 <| w_c (-2) <| w_b2 (fun x y => x = y) (b_R_market_48 c0 c1 Z) (b_R_market_58 c0 c1 Z)
def b_R_market_34 (c0 c1 : ra_Sp) (Z : ra_R) : ra_K := w_al 0 <| w_gr 0 4 <| w_gi 7 5 <| w_ir Z
def b_R_market_22 (c0 c1 : ra_Sp) (Z : ra_R) : ra_K := w_al 0 <| w_gr 0 4 <| w_cv c1 1 7 <| w_il 1 <| w_c (-1) <| w_b2 (fun x y => x = y) (b_R_market_34 c0 c1 Z) (b_R_market_42 c0 c1 Z)
def b_R_market_19 (c0 c1 : ra_Sp) (Z : ra_R) : ra_K := w_c (-2) <| w_ir Z
def b_R_market_11 (c0 c1 : ra_Sp) (Z : ra_R) : ra_K := w_al 0 <| w_il 1 <| w_cv c0 2 0 <| w_b1 (fun x => x = 0) (b_R_market_22 c0 c1 Z) (b_R_market_19 c0 c1 Z)
def b_R_market_5 (c0 c1 : ra_Sp) (Z : ra_R) : ra_K := w_il 1 <| w_c (-2) <| w_b2 (fun x y => x = y) (b_R_market_22 c0 c1 Z) (b_R_market_11 c0 c1 Z)
def b_R_market_0 (c0 c1 : ra_Sp) (Z : ra_R) : ra_K := w_il 1 <| w_c (-1) <| w_b2 (fun x y => x = y) (b_R_market_22 c0 c1 Z) (b_R_market_5 c0 c1 Z)
theorem o_R_market_67 {X : ra_X} {p : Program} {l : Launch} {e : Env} {s : State} {m : MethodId} {args : Array Value} {below : List Frame} {meth : Method} {c : Code} {Z : ra_R} {c0 c1 : ra_Sp}  (h0 : ra_MOK l X mi_R_isNoHouse c0) (h1 : ra_MOK l X mi_Ex_bringMarketUp c1) (F : ra_Fx X p rm_R_market s m args c prog_1_method_19_code 2 cn_R) (hr : meth.sig.returnType = (some .int)) (hlk : meth.locks = false) : ra_At X p l e rm_R_market s m args below meth c 2 (MQ below (ra_Qc X Z) args s 0 0 (ra_A X)) (b_R_market_67 c0 c1 Z) 67 :=
  r_ireturn F hr hlk d_R_market_67
theorem o_R_market_58 {X : ra_X} {p : Program} {l : Launch} {e : Env} {s : State} {m : MethodId} {args : Array Value} {below : List Frame} {meth : Method} {c : Code} {Z : ra_R} {c0 c1 : ra_Sp}  (h0 : ra_MOK l X mi_R_isNoHouse c0) (h1 : ra_MOK l X mi_Ex_bringMarketUp c1) (F : ra_Fx X p rm_R_market s m args c prog_1_method_19_code 2 cn_R) (hr : meth.sig.returnType = (some .int)) (hlk : meth.locks = false) : ra_At X p l e rm_R_market s m args below meth c 2 (MQ below (ra_Qc X Z) args s 0 0 (ra_A X)) (b_R_market_58 c0 c1 Z) 58 :=
  r_aload_n F d_R_market_58 rfl <| r_getR F cg_R (j := 4) (by decide) rfl fl_R_44 d_R_market_59 <| r_getR F cg_Ex (j := 2) (by decide) rfl fl_R_198 d_R_market_62 <| r_iload_n F d_R_market_65 rfl <| r_iaload F d_R_market_66 <| (o_R_market_67 h0 h1 F hr hlk)
theorem o_R_market_48 {X : ra_X} {p : Program} {l : Launch} {e : Env} {s : State} {m : MethodId} {args : Array Value} {below : List Frame} {meth : Method} {c : Code} {Z : ra_R} {c0 c1 : ra_Sp}  (h0 : ra_MOK l X mi_R_isNoHouse c0) (h1 : ra_MOK l X mi_Ex_bringMarketUp c1) (F : ra_Fx X p rm_R_market s m args c prog_1_method_19_code 2 cn_R) (hr : meth.sig.returnType = (some .int)) (hlk : meth.locks = false) : ra_At X p l e rm_R_market s m args below meth c 2 (MQ below (ra_Qc X Z) args s 0 0 (ra_A X)) (b_R_market_48 c0 c1 Z) 48 :=
  r_aload_n F d_R_market_48 rfl <| r_getR F cg_R (j := 4) (by decide) rfl fl_R_44 d_R_market_49 <| r_getI F cg_Ex (j := 6) (by decide) rfl fl_R_195 d_R_market_52 <| r_goto F d_R_market_55 (by decide) (o_R_market_67 h0 h1 F hr hlk)
theorem o_R_market_42 {X : ra_X} {p : Program} {l : Launch} {e : Env} {s : State} {m : MethodId} {args : Array Value} {below : List Frame} {meth : Method} {c : Code} {Z : ra_R} {c0 c1 : ra_Sp}  (h0 : ra_MOK l X mi_R_isNoHouse c0) (h1 : ra_MOK l X mi_Ex_bringMarketUp c1) (F : ra_Fx X p rm_R_market s m args c prog_1_method_19_code 2 cn_R) (hr : meth.sig.returnType = (some .int)) (hlk : meth.locks = false) : ra_At X p l e rm_R_market s m args below meth c 2 (MQ below (ra_Qc X Z) args s 0 0 (ra_A X)) (b_R_market_42 c0 c1 Z) 42 :=
  r_iload_n F d_R_market_42 rfl <| r_bipush F d_R_market_43 (by decide) <| r_icmp_ne F d_R_market_45 (by decide) (o_R_market_58 h0 h1 F hr hlk) (o_R_market_48 h0 h1 F hr hlk)
theorem o_R_market_34 {X : ra_X} {p : Program} {l : Launch} {e : Env} {s : State} {m : MethodId} {args : Array Value} {below : List Frame} {meth : Method} {c : Code} {Z : ra_R} {c0 c1 : ra_Sp}  (h0 : ra_MOK l X mi_R_isNoHouse c0) (h1 : ra_MOK l X mi_Ex_bringMarketUp c1) (F : ra_Fx X p rm_R_market s m args c prog_1_method_19_code 2 cn_R) (hr : meth.sig.returnType = (some .int)) (hlk : meth.locks = false) : ra_At X p l e rm_R_market s m args below meth c 2 (MQ below (ra_Qc X Z) args s 0 0 (ra_A X)) (b_R_market_34 c0 c1 Z) 34 :=
  r_aload_n F d_R_market_34 rfl <| r_getR F cg_R (j := 4) (by decide) rfl fl_R_44 d_R_market_35 <| r_getI F cg_Ex (j := 5) (by decide) rfl fl_R_192 d_R_market_38 <| r_ireturn F hr hlk d_R_market_41
theorem o_R_market_22 {X : ra_X} {p : Program} {l : Launch} {e : Env} {s : State} {m : MethodId} {args : Array Value} {below : List Frame} {meth : Method} {c : Code} {Z : ra_R} {c0 c1 : ra_Sp}  (h0 : ra_MOK l X mi_R_isNoHouse c0) (h1 : ra_MOK l X mi_Ex_bringMarketUp c1) (F : ra_Fx X p rm_R_market s m args c prog_1_method_19_code 2 cn_R) (hr : meth.sig.returnType = (some .int)) (hlk : meth.locks = false) : ra_At X p l e rm_R_market s m args below meth c 2 (MQ below (ra_Qc X Z) args s 0 0 (ra_A X)) (b_R_market_22 c0 c1 Z) 22 :=
  r_aload_n F d_R_market_22 rfl <| r_getR F cg_R (j := 4) (by decide) rfl fl_R_44 d_R_market_23 <| r_callV F h1 (co_Ex_bringMarketUp (by decide +kernel) (by decide +kernel)) ⟨rfl, by decide +kernel⟩ ⟨rfl, by decide⟩ ml_R_189 im_Ex_bringMarketUp se_Ex_bringMarketUp d_R_market_26 <| r_iload_n F d_R_market_29 rfl <| r_iconst F d_R_market_30 (by decide) <| r_icmp_ne F d_R_market_31 (by decide) (o_R_market_42 h0 h1 F hr hlk) (o_R_market_34 h0 h1 F hr hlk)
theorem o_R_market_19 {X : ra_X} {p : Program} {l : Launch} {e : Env} {s : State} {m : MethodId} {args : Array Value} {below : List Frame} {meth : Method} {c : Code} {Z : ra_R} {c0 c1 : ra_Sp}  (h0 : ra_MOK l X mi_R_isNoHouse c0) (h1 : ra_MOK l X mi_Ex_bringMarketUp c1) (F : ra_Fx X p rm_R_market s m args c prog_1_method_19_code 2 cn_R) (hr : meth.sig.returnType = (some .int)) (hlk : meth.locks = false) : ra_At X p l e rm_R_market s m args below meth c 2 (MQ below (ra_Qc X Z) args s 0 0 (ra_A X)) (b_R_market_19 c0 c1 Z) 19 :=
  r_bipush F d_R_market_19 (by decide) <| r_ireturn F hr hlk d_R_market_21
theorem o_R_market_11 {X : ra_X} {p : Program} {l : Launch} {e : Env} {s : State} {m : MethodId} {args : Array Value} {below : List Frame} {meth : Method} {c : Code} {Z : ra_R} {c0 c1 : ra_Sp}  (h0 : ra_MOK l X mi_R_isNoHouse c0) (h1 : ra_MOK l X mi_Ex_bringMarketUp c1) (F : ra_Fx X p rm_R_market s m args c prog_1_method_19_code 2 cn_R) (hr : meth.sig.returnType = (some .int)) (hlk : meth.locks = false) : ra_At X p l e rm_R_market s m args below meth c 2 (MQ below (ra_Qc X Z) args s 0 0 (ra_A X)) (b_R_market_11 c0 c1 Z) 11 :=
  r_aload_n F d_R_market_11 rfl <| r_iload_n F d_R_market_12 rfl <| r_callV F h0 (co_R_isNoHouse (by decide +kernel) (by decide +kernel)) ⟨rfl, by decide +kernel⟩ ⟨rfl, by decide⟩ ml_R_96 im_R_isNoHouse se_R_isNoHouse d_R_market_13 <| r_if_eq F d_R_market_16 (by decide) (o_R_market_22 h0 h1 F hr hlk) (o_R_market_19 h0 h1 F hr hlk)
theorem o_R_market_5 {X : ra_X} {p : Program} {l : Launch} {e : Env} {s : State} {m : MethodId} {args : Array Value} {below : List Frame} {meth : Method} {c : Code} {Z : ra_R} {c0 c1 : ra_Sp}  (h0 : ra_MOK l X mi_R_isNoHouse c0) (h1 : ra_MOK l X mi_Ex_bringMarketUp c1) (F : ra_Fx X p rm_R_market s m args c prog_1_method_19_code 2 cn_R) (hr : meth.sig.returnType = (some .int)) (hlk : meth.locks = false) : ra_At X p l e rm_R_market s m args below meth c 2 (MQ below (ra_Qc X Z) args s 0 0 (ra_A X)) (b_R_market_5 c0 c1 Z) 5 :=
  r_iload_n F d_R_market_5 rfl <| r_bipush F d_R_market_6 (by decide) <| r_icmp_eq F d_R_market_8 (by decide) (o_R_market_22 h0 h1 F hr hlk) (o_R_market_11 h0 h1 F hr hlk)
theorem o_R_market_0 {X : ra_X} {p : Program} {l : Launch} {e : Env} {s : State} {m : MethodId} {args : Array Value} {below : List Frame} {meth : Method} {c : Code} {Z : ra_R} {c0 c1 : ra_Sp}  (h0 : ra_MOK l X mi_R_isNoHouse c0) (h1 : ra_MOK l X mi_Ex_bringMarketUp c1) (F : ra_Fx X p rm_R_market s m args c prog_1_method_19_code 2 cn_R) (hr : meth.sig.returnType = (some .int)) (hlk : meth.locks = false) : ra_At X p l e rm_R_market s m args below meth c 2 (MQ below (ra_Qc X Z) args s 0 0 (ra_A X)) (b_R_market_0 c0 c1 Z) 0 :=
  r_iload_n F d_R_market_0 rfl <| r_iconst F d_R_market_1 (by decide) <| r_icmp_eq F d_R_market_2 (by decide) (o_R_market_22 h0 h1 F hr hlk) (o_R_market_5 h0 h1 F hr hlk)
theorem g_R_market {l : Launch} {X : ra_X} {c0 c1 : ra_Sp}  (h0 : ra_MOK l X mi_R_isNoHouse c0) (h1 : ra_MOK l X mi_Ex_bringMarketUp c1) (sp : ra_Sp) (ve : ∀ as σ Z, ra_c1 as = true → as.length = 2 → sp as σ Z → b_R_market_0 c0 c1 Z (ra_pad 2 as) [] σ) : ra_MOK l X mi_R_market sp := by
  refine ra_enter (k := fun Z as σ => b_R_market_0 c0 c1 Z) cn_R rfl (by decide +kernel) ⟨by decide +kernel, by decide +kernel⟩ (by decide +kernel) ?_ ve
  intro p e s m args below meth c Z as σ hsp F hr hlk
  exact o_R_market_0 h0 h1 F hr hlk

theorem d_Ex_had_0 : decode prog_3_method_8_code 0 = .ok (.aload_n 0, 1) := by decide +kernel
theorem d_Ex_had_1 : decode prog_3_method_8_code 1 = .ok (.getfield 11, 3) := by decide +kernel
theorem d_Ex_had_4 : decode prog_3_method_8_code 4 = .ok (.iload_n 1, 1) := by decide +kernel
theorem d_Ex_had_5 : decode prog_3_method_8_code 5 = .ok (.aaload, 1) := by decide +kernel
theorem d_Ex_had_6 : decode prog_3_method_8_code 6 = .ok (.iload_n 2, 1) := by decide +kernel
theorem d_Ex_had_7 : decode prog_3_method_8_code 7 = .ok (.iaload, 1) := by decide +kernel
theorem d_Ex_had_8 : decode prog_3_method_8_code 8 = .ok (.aload_n 0, 1) := by decide +kernel
theorem d_Ex_had_9 : decode prog_3_method_8_code 9 = .ok (.getfield 23, 3) := by decide +kernel
theorem d_Ex_had_12 : decode prog_3_method_8_code 12 = .ok (.iload_n 3, 1) := by decide +kernel
theorem d_Ex_had_13 : decode prog_3_method_8_code 13 = .ok (.iconst 1, 1) := by decide +kernel
theorem d_Ex_had_14 : decode prog_3_method_8_code 14 = .ok (.iload_n 2, 1) := by decide +kernel
theorem d_Ex_had_15 : decode prog_3_method_8_code 15 = .ok (.ishl, 1) := by decide +kernel
theorem d_Ex_had_16 : decode prog_3_method_8_code 16 = .ok (.ior, 1) := by decide +kernel
theorem d_Ex_had_17 : decode prog_3_method_8_code 17 = .ok (.iaload, 1) := by decide +kernel
theorem d_Ex_had_18 : decode prog_3_method_8_code 18 = .ok (.iadd, 1) := by decide +kernel
theorem d_Ex_had_19 : decode prog_3_method_8_code 19 = .ok (.ireturn, 1) := by decide +kernel
def b_Ex_had_0 (Z : ra_R) : ra_K := w_al 0 <| w_gr 7 1 <| w_il 1 <| w_rld 2 <| w_il 2 <| w_ald <| w_al 0 <| w_gr 7 4 <| w_il 3 <| w_c 1 <| w_il 2 <| w_i2 (fun x y => x <<< (y &&& 31)) <| w_i2 (fun x y => x ||| y) <| w_ald <| w_i2 (fun x y => x + y) <| w_ir Z
theorem o_Ex_had_0 {X : ra_X} {p : Program} {l : Launch} {e : Env} {s : State} {m : MethodId} {args : Array Value} {below : List Frame} {meth : Method} {c : Code} {Z : ra_R}  (F : ra_Fx X p rm_Ex_had s m args c prog_3_method_8_code 4 cn_Ex) (hr : meth.sig.returnType = (some .int)) (hlk : meth.locks = false) : ra_At X p l e rm_Ex_had s m args below meth c 4 (MQ below (ra_Qc X Z) args s 0 0 (ra_A X)) (b_Ex_had_0 Z) 0 :=
  r_aload_n F d_Ex_had_0 rfl <| r_getR F cg_Ex (j := 1) (by decide) rfl fl_Ex_11 d_Ex_had_1 <| r_iload_n F d_Ex_had_4 rfl <| r_aaloadI F d_Ex_had_5 <| r_iload_n F d_Ex_had_6 rfl <| r_iaload F d_Ex_had_7 <| r_aload_n F d_Ex_had_8 rfl <| r_getR F cg_Ex (j := 4) (by decide) rfl fl_Ex_23 d_Ex_had_9 <| r_iload_n F d_Ex_had_12 rfl <| r_iconst F d_Ex_had_13 (by decide) <| r_iload_n F d_Ex_had_14 rfl <| r_ishl F d_Ex_had_15 <| r_ior F d_Ex_had_16 <| r_iaload F d_Ex_had_17 <| r_iadd F d_Ex_had_18 <| r_ireturn F hr hlk d_Ex_had_19
theorem g_Ex_had {l : Launch} {X : ra_X}  (sp : ra_Sp) (ve : ∀ as σ Z, ra_c1 as = true → as.length = 4 → sp as σ Z → b_Ex_had_0 Z (ra_pad 4 as) [] σ) : ra_MOK l X mi_Ex_had sp := by
  refine ra_enter (k := fun Z as σ => b_Ex_had_0 Z) cn_Ex rfl (by decide +kernel) ⟨by decide +kernel, by decide +kernel⟩ (by decide +kernel) ?_ ve
  intro p e s m args below meth c Z as σ hsp F hr hlk
  exact o_Ex_had_0 F hr hlk

theorem d_Ex_bestRoof_0 : decode prog_3_method_7_code 0 = .ok (.iconst 0, 1) := by decide +kernel
theorem d_Ex_bestRoof_1 : decode prog_3_method_7_code 1 = .ok (.istore_n 3, 1) := by decide +kernel
theorem d_Ex_bestRoof_2 : decode prog_3_method_7_code 2 = .ok (.iconst (-1), 1) := by decide +kernel
theorem d_Ex_bestRoof_3 : decode prog_3_method_7_code 3 = .ok (.istore 4, 2) := by decide +kernel
theorem d_Ex_bestRoof_5 : decode prog_3_method_7_code 5 = .ok (.iconst 0, 1) := by decide +kernel
theorem d_Ex_bestRoof_6 : decode prog_3_method_7_code 6 = .ok (.istore 5, 2) := by decide +kernel
theorem d_Ex_bestRoof_8 : decode prog_3_method_7_code 8 = .ok (.iload 5, 2) := by decide +kernel
theorem d_Ex_bestRoof_10 : decode prog_3_method_7_code 10 = .ok (.aload_n 0, 1) := by decide +kernel
theorem d_Ex_bestRoof_11 : decode prog_3_method_7_code 11 = .ok (.getfield 33, 3) := by decide +kernel
theorem d_Ex_bestRoof_14 : decode prog_3_method_7_code 14 = .ok (.getfield 46, 3) := by decide +kernel
theorem d_Ex_bestRoof_17 : decode prog_3_method_7_code 17 = .ok (.if_icmp .ge 44, 3) := by decide +kernel
theorem d_Ex_bestRoof_20 : decode prog_3_method_7_code 20 = .ok (.iload_n 2, 1) := by decide +kernel
theorem d_Ex_bestRoof_21 : decode prog_3_method_7_code 21 = .ok (.iload 5, 2) := by decide +kernel
theorem d_Ex_bestRoof_23 : decode prog_3_method_7_code 23 = .ok (.invokestatic 86, 3) := by decide +kernel
theorem d_Ex_bestRoof_26 : decode prog_3_method_7_code 26 = .ok (.ifCond .ne 29, 3) := by decide +kernel
theorem d_Ex_bestRoof_29 : decode prog_3_method_7_code 29 = .ok (.aload_n 0, 1) := by decide +kernel
theorem d_Ex_bestRoof_30 : decode prog_3_method_7_code 30 = .ok (.iload_n 1, 1) := by decide +kernel
theorem d_Ex_bestRoof_31 : decode prog_3_method_7_code 31 = .ok (.iload 5, 2) := by decide +kernel
theorem d_Ex_bestRoof_33 : decode prog_3_method_7_code 33 = .ok (.iload_n 2, 1) := by decide +kernel
theorem d_Ex_bestRoof_34 : decode prog_3_method_7_code 34 = .ok (.invokevirtual 79, 3) := by decide +kernel
theorem d_Ex_bestRoof_37 : decode prog_3_method_7_code 37 = .ok (.iload 4, 2) := by decide +kernel
theorem d_Ex_bestRoof_39 : decode prog_3_method_7_code 39 = .ok (.if_icmp .le 16, 3) := by decide +kernel
theorem d_Ex_bestRoof_42 : decode prog_3_method_7_code 42 = .ok (.aload_n 0, 1) := by decide +kernel
theorem d_Ex_bestRoof_43 : decode prog_3_method_7_code 43 = .ok (.iload_n 1, 1) := by decide +kernel
theorem d_Ex_bestRoof_44 : decode prog_3_method_7_code 44 = .ok (.iload 5, 2) := by decide +kernel
theorem d_Ex_bestRoof_46 : decode prog_3_method_7_code 46 = .ok (.iload_n 2, 1) := by decide +kernel
theorem d_Ex_bestRoof_47 : decode prog_3_method_7_code 47 = .ok (.invokevirtual 79, 3) := by decide +kernel
theorem d_Ex_bestRoof_50 : decode prog_3_method_7_code 50 = .ok (.istore 4, 2) := by decide +kernel
theorem d_Ex_bestRoof_52 : decode prog_3_method_7_code 52 = .ok (.iload 5, 2) := by decide +kernel
theorem d_Ex_bestRoof_54 : decode prog_3_method_7_code 54 = .ok (.istore_n 3, 1) := by decide +kernel
theorem d_Ex_bestRoof_55 : decode prog_3_method_7_code 55 = .ok (.iinc 5 1, 3) := by decide +kernel
theorem d_Ex_bestRoof_58 : decode prog_3_method_7_code 58 = .ok (.goto (-50), 3) := by decide +kernel
theorem d_Ex_bestRoof_61 : decode prog_3_method_7_code 61 = .ok (.iload_n 3, 1) := by decide +kernel
theorem d_Ex_bestRoof_62 : decode prog_3_method_7_code 62 = .ok (.ireturn, 1) := by decide +kernel
def b_Ex_bestRoof_61 (c0 c1 : ra_Sp) (I : Nat → ra_K) (Z : ra_R) : ra_K := w_il 3 <| w_ir Z
def b_Ex_bestRoof_55 (c0 c1 : ra_Sp) (I : Nat → ra_K) (Z : ra_R) : ra_K := w_inc 5 1 <| (I 8)
def b_Ex_bestRoof_42 (c0 c1 : ra_Sp) (I : Nat → ra_K) (Z : ra_R) : ra_K := w_al 0 <| w_il 1 <| w_il 5 <| w_il 2 <| w_cv c1 4 7 <| w_is 4 <| w_il 5 <| w_is 3 <| (b_Ex_bestRoof_55 c0 c1 I Z)
def b_Ex_bestRoof_29 (c0 c1 : ra_Sp) (I : Nat → ra_K) (Z : ra_R) : ra_K := w_al 0 <| w_il 1 <| w_il 5 <| w_il 2 <| w_cv c1 4 7 <| w_il 4 <| w_b2 (fun x y => x ≤ y) (b_Ex_bestRoof_55 c0 c1 I Z) (b_Ex_bestRoof_42 c0 c1 I Z)
def b_Ex_bestRoof_20 (c0 c1 : ra_Sp) (I : Nat → ra_K) (Z : ra_R) : ra_K := w_il 2 <| w_il 5 <| w_cs c0 2 <| w_b1 (fun x => x = 0) (b_Ex_bestRoof_29 c0 c1 I Z) (b_Ex_bestRoof_55 c0 c1 I Z)
def b_Ex_bestRoof_8 (c0 c1 : ra_Sp) (I : Nat → ra_K) (Z : ra_R) : ra_K := w_il 5 <| w_al 0 <| w_gr 7 0 <| w_gi 1 8 <| w_b2 (fun x y => y ≤ x) (b_Ex_bestRoof_61 c0 c1 I Z) (b_Ex_bestRoof_20 c0 c1 I Z)
def b_Ex_bestRoof_0 (c0 c1 : ra_Sp) (I : Nat → ra_K) (Z : ra_R) : ra_K := w_c 0 <| w_is 3 <| w_c (-1) <| w_is 4 <| w_c 0 <| w_is 5 <| (I 8)
theorem o_Ex_bestRoof_61 {X : ra_X} {p : Program} {l : Launch} {e : Env} {s : State} {m : MethodId} {args : Array Value} {below : List Frame} {meth : Method} {c : Code} {Z : ra_R} {c0 c1 : ra_Sp}  (h0 : ra_MOK l X mi_R_has c0) (h1 : ra_MOK l X mi_Ex_had c1) (F : ra_Fx X p rm_Ex_bestRoof s m args c prog_3_method_7_code 6 cn_Ex) (hr : meth.sig.returnType = (some .int)) (hlk : meth.locks = false) {I : Nat → ra_K} (hI : ∀ t ∈ [8], ra_At X p l e rm_Ex_bestRoof s m args below meth c 6 (MQ below (ra_Qc X Z) args s 0 0 (ra_A X)) (I t) t) : ra_At X p l e rm_Ex_bestRoof s m args below meth c 6 (MQ below (ra_Qc X Z) args s 0 0 (ra_A X)) (b_Ex_bestRoof_61 c0 c1 I Z) 61 :=
  r_iload_n F d_Ex_bestRoof_61 rfl <| r_ireturn F hr hlk d_Ex_bestRoof_62
theorem o_Ex_bestRoof_55 {X : ra_X} {p : Program} {l : Launch} {e : Env} {s : State} {m : MethodId} {args : Array Value} {below : List Frame} {meth : Method} {c : Code} {Z : ra_R} {c0 c1 : ra_Sp}  (h0 : ra_MOK l X mi_R_has c0) (h1 : ra_MOK l X mi_Ex_had c1) (F : ra_Fx X p rm_Ex_bestRoof s m args c prog_3_method_7_code 6 cn_Ex) (hr : meth.sig.returnType = (some .int)) (hlk : meth.locks = false) {I : Nat → ra_K} (hI : ∀ t ∈ [8], ra_At X p l e rm_Ex_bestRoof s m args below meth c 6 (MQ below (ra_Qc X Z) args s 0 0 (ra_A X)) (I t) t) : ra_At X p l e rm_Ex_bestRoof s m args below meth c 6 (MQ below (ra_Qc X Z) args s 0 0 (ra_A X)) (b_Ex_bestRoof_55 c0 c1 I Z) 55 :=
  r_iinc F d_Ex_bestRoof_55 (by decide) (by decide) <| r_goto F d_Ex_bestRoof_58 (by decide) (hI 8 (by decide))
theorem o_Ex_bestRoof_42 {X : ra_X} {p : Program} {l : Launch} {e : Env} {s : State} {m : MethodId} {args : Array Value} {below : List Frame} {meth : Method} {c : Code} {Z : ra_R} {c0 c1 : ra_Sp}  (h0 : ra_MOK l X mi_R_has c0) (h1 : ra_MOK l X mi_Ex_had c1) (F : ra_Fx X p rm_Ex_bestRoof s m args c prog_3_method_7_code 6 cn_Ex) (hr : meth.sig.returnType = (some .int)) (hlk : meth.locks = false) {I : Nat → ra_K} (hI : ∀ t ∈ [8], ra_At X p l e rm_Ex_bestRoof s m args below meth c 6 (MQ below (ra_Qc X Z) args s 0 0 (ra_A X)) (I t) t) : ra_At X p l e rm_Ex_bestRoof s m args below meth c 6 (MQ below (ra_Qc X Z) args s 0 0 (ra_A X)) (b_Ex_bestRoof_42 c0 c1 I Z) 42 :=
  r_aload_n F d_Ex_bestRoof_42 rfl <| r_iload_n F d_Ex_bestRoof_43 rfl <| r_iload F d_Ex_bestRoof_44 <| r_iload_n F d_Ex_bestRoof_46 rfl <| r_callV F h1 (co_Ex_had (by decide +kernel) (by decide +kernel)) ⟨rfl, by decide +kernel⟩ ⟨rfl, by decide⟩ ml_Ex_79 im_Ex_had se_Ex_had d_Ex_bestRoof_47 <| r_istore F d_Ex_bestRoof_50 (by decide) <| r_iload F d_Ex_bestRoof_52 <| r_istore_n F d_Ex_bestRoof_54 rfl (by decide) <| (o_Ex_bestRoof_55 h0 h1 F hr hlk hI)
theorem o_Ex_bestRoof_29 {X : ra_X} {p : Program} {l : Launch} {e : Env} {s : State} {m : MethodId} {args : Array Value} {below : List Frame} {meth : Method} {c : Code} {Z : ra_R} {c0 c1 : ra_Sp}  (h0 : ra_MOK l X mi_R_has c0) (h1 : ra_MOK l X mi_Ex_had c1) (F : ra_Fx X p rm_Ex_bestRoof s m args c prog_3_method_7_code 6 cn_Ex) (hr : meth.sig.returnType = (some .int)) (hlk : meth.locks = false) {I : Nat → ra_K} (hI : ∀ t ∈ [8], ra_At X p l e rm_Ex_bestRoof s m args below meth c 6 (MQ below (ra_Qc X Z) args s 0 0 (ra_A X)) (I t) t) : ra_At X p l e rm_Ex_bestRoof s m args below meth c 6 (MQ below (ra_Qc X Z) args s 0 0 (ra_A X)) (b_Ex_bestRoof_29 c0 c1 I Z) 29 :=
  r_aload_n F d_Ex_bestRoof_29 rfl <| r_iload_n F d_Ex_bestRoof_30 rfl <| r_iload F d_Ex_bestRoof_31 <| r_iload_n F d_Ex_bestRoof_33 rfl <| r_callV F h1 (co_Ex_had (by decide +kernel) (by decide +kernel)) ⟨rfl, by decide +kernel⟩ ⟨rfl, by decide⟩ ml_Ex_79 im_Ex_had se_Ex_had d_Ex_bestRoof_34 <| r_iload F d_Ex_bestRoof_37 <| r_icmp_le F d_Ex_bestRoof_39 (by decide) (o_Ex_bestRoof_55 h0 h1 F hr hlk hI) (o_Ex_bestRoof_42 h0 h1 F hr hlk hI)
theorem o_Ex_bestRoof_20 {X : ra_X} {p : Program} {l : Launch} {e : Env} {s : State} {m : MethodId} {args : Array Value} {below : List Frame} {meth : Method} {c : Code} {Z : ra_R} {c0 c1 : ra_Sp}  (h0 : ra_MOK l X mi_R_has c0) (h1 : ra_MOK l X mi_Ex_had c1) (F : ra_Fx X p rm_Ex_bestRoof s m args c prog_3_method_7_code 6 cn_Ex) (hr : meth.sig.returnType = (some .int)) (hlk : meth.locks = false) {I : Nat → ra_K} (hI : ∀ t ∈ [8], ra_At X p l e rm_Ex_bestRoof s m args below meth c 6 (MQ below (ra_Qc X Z) args s 0 0 (ra_A X)) (I t) t) : ra_At X p l e rm_Ex_bestRoof s m args below meth c 6 (MQ below (ra_Qc X Z) args s 0 0 (ra_A X)) (b_Ex_bestRoof_20 c0 c1 I Z) 20 :=
  r_iload_n F d_Ex_bestRoof_20 rfl <| r_iload F d_Ex_bestRoof_21 <| r_callSN F h0 (co_R_has (by decide +kernel) (by decide +kernel)) ⟨rfl, by decide +kernel⟩ (host := "RoofAcross") (by decide +kernel) st_R_has d_Ex_bestRoof_23 <| r_if_ne F d_Ex_bestRoof_26 (by decide) (o_Ex_bestRoof_55 h0 h1 F hr hlk hI) (o_Ex_bestRoof_29 h0 h1 F hr hlk hI)
theorem o_Ex_bestRoof_8 {X : ra_X} {p : Program} {l : Launch} {e : Env} {s : State} {m : MethodId} {args : Array Value} {below : List Frame} {meth : Method} {c : Code} {Z : ra_R} {c0 c1 : ra_Sp}  (h0 : ra_MOK l X mi_R_has c0) (h1 : ra_MOK l X mi_Ex_had c1) (F : ra_Fx X p rm_Ex_bestRoof s m args c prog_3_method_7_code 6 cn_Ex) (hr : meth.sig.returnType = (some .int)) (hlk : meth.locks = false) {I : Nat → ra_K} (hI : ∀ t ∈ [8], ra_At X p l e rm_Ex_bestRoof s m args below meth c 6 (MQ below (ra_Qc X Z) args s 0 0 (ra_A X)) (I t) t) : ra_At X p l e rm_Ex_bestRoof s m args below meth c 6 (MQ below (ra_Qc X Z) args s 0 0 (ra_A X)) (b_Ex_bestRoof_8 c0 c1 I Z) 8 :=
  r_iload F d_Ex_bestRoof_8 <| r_aload_n F d_Ex_bestRoof_10 rfl <| r_getR F cg_Ex (j := 0) (by decide) rfl fl_Ex_33 d_Ex_bestRoof_11 <| r_getI F cg_V (j := 8) (by decide) rfl fl_Ex_46 d_Ex_bestRoof_14 <| r_icmp_ge F d_Ex_bestRoof_17 (by decide) (o_Ex_bestRoof_61 h0 h1 F hr hlk hI) (o_Ex_bestRoof_20 h0 h1 F hr hlk hI)
theorem o_Ex_bestRoof_0 {X : ra_X} {p : Program} {l : Launch} {e : Env} {s : State} {m : MethodId} {args : Array Value} {below : List Frame} {meth : Method} {c : Code} {Z : ra_R} {c0 c1 : ra_Sp}  (h0 : ra_MOK l X mi_R_has c0) (h1 : ra_MOK l X mi_Ex_had c1) (F : ra_Fx X p rm_Ex_bestRoof s m args c prog_3_method_7_code 6 cn_Ex) (hr : meth.sig.returnType = (some .int)) (hlk : meth.locks = false) {I : Nat → ra_K} (hI : ∀ t ∈ [8], ra_At X p l e rm_Ex_bestRoof s m args below meth c 6 (MQ below (ra_Qc X Z) args s 0 0 (ra_A X)) (I t) t) : ra_At X p l e rm_Ex_bestRoof s m args below meth c 6 (MQ below (ra_Qc X Z) args s 0 0 (ra_A X)) (b_Ex_bestRoof_0 c0 c1 I Z) 0 :=
  r_iconst F d_Ex_bestRoof_0 (by decide) <| r_istore_n F d_Ex_bestRoof_1 rfl (by decide) <| r_iconst F d_Ex_bestRoof_2 (by decide) <| r_istore F d_Ex_bestRoof_3 (by decide) <| r_iconst F d_Ex_bestRoof_5 (by decide) <| r_istore F d_Ex_bestRoof_6 (by decide) <| (hI 8 (by decide))
theorem g_Ex_bestRoof {l : Launch} {X : ra_X} {c0 c1 : ra_Sp}  (h0 : ra_MOK l X mi_R_has c0) (h1 : ra_MOK l X mi_Ex_had c1) (sp : ra_Sp) (I : ra_R → List Value → ra_St → Nat → ra_M → ra_K) (ve : ∀ as σ Z, ra_c1 as = true → as.length = 3 → sp as σ Z → b_Ex_bestRoof_0 c0 c1 (ra_I (I Z as σ)) Z (ra_pad 6 as) [] σ) (v8 : ∀ as σ Z, sp as σ Z → ∀ μ L S σ1, I Z as σ 8 μ L S σ1 → b_Ex_bestRoof_8 c0 c1 (ra_J (I Z as σ) μ) Z L S σ1) : ra_MOK l X mi_Ex_bestRoof sp := by
  refine ra_enter (k := fun Z as σ => b_Ex_bestRoof_0 c0 c1 (ra_I (I Z as σ)) Z) cn_Ex rfl (by decide +kernel) ⟨by decide +kernel, by decide +kernel⟩ (by decide +kernel) ?_ ve
  intro p e s m args below meth c Z as σ hsp F hr hlk
  refine o_Ex_bestRoof_0 h0 h1 F hr hlk (ra_cuts (b := fun t J => if t = 8 then b_Ex_bestRoof_8 c0 c1 J Z else fun _ _ _ => False) ?_ ?_)
  · intro t ht J hJ
    simp only [List.mem_cons, List.not_mem_nil, or_false] at ht
    rcases ht with rfl
    · exact o_Ex_bestRoof_8 h0 h1 F hr hlk hJ
  · intro t ht μ L S σ1 hI
    simp only [List.mem_cons, List.not_mem_nil, or_false] at ht
    rcases ht with rfl
    · exact v8 as σ Z hsp μ L S σ1 hI

theorem d_Ex_bringBestUp_0 : decode prog_3_method_6_code 0 = .ok (.aload_n 0, 1) := by decide +kernel
theorem d_Ex_bringBestUp_1 : decode prog_3_method_6_code 1 = .ok (.getfield 33, 3) := by decide +kernel
theorem d_Ex_bringBestUp_4 : decode prog_3_method_6_code 4 = .ok (.getfield 40, 3) := by decide +kernel
theorem d_Ex_bringBestUp_7 : decode prog_3_method_6_code 7 = .ok (.aload_n 0, 1) := by decide +kernel
theorem d_Ex_bringBestUp_8 : decode prog_3_method_6_code 8 = .ok (.getfield 37, 3) := by decide +kernel
theorem d_Ex_bringBestUp_11 : decode prog_3_method_6_code 11 = .ok (.iadd, 1) := by decide +kernel
theorem d_Ex_bringBestUp_12 : decode prog_3_method_6_code 12 = .ok (.istore_n 1, 1) := by decide +kernel
theorem d_Ex_bringBestUp_13 : decode prog_3_method_6_code 13 = .ok (.aload_n 0, 1) := by decide +kernel
theorem d_Ex_bringBestUp_14 : decode prog_3_method_6_code 14 = .ok (.getfield 30, 3) := by decide +kernel
theorem d_Ex_bringBestUp_17 : decode prog_3_method_6_code 17 = .ok (.iload_n 1, 1) := by decide +kernel
theorem d_Ex_bringBestUp_18 : decode prog_3_method_6_code 18 = .ok (.if_icmp .ne 4, 3) := by decide +kernel
theorem d_Ex_bringBestUp_21 : decode prog_3_method_6_code 21 = .ok (.return_, 1) := by decide +kernel
theorem d_Ex_bringBestUp_22 : decode prog_3_method_6_code 22 = .ok (.aload_n 0, 1) := by decide +kernel
theorem d_Ex_bringBestUp_23 : decode prog_3_method_6_code 23 = .ok (.iload_n 1, 1) := by decide +kernel
theorem d_Ex_bringBestUp_24 : decode prog_3_method_6_code 24 = .ok (.putfield 30, 3) := by decide +kernel
theorem d_Ex_bringBestUp_27 : decode prog_3_method_6_code 27 = .ok (.iconst 1, 1) := by decide +kernel
theorem d_Ex_bringBestUp_28 : decode prog_3_method_6_code 28 = .ok (.aload_n 0, 1) := by decide +kernel
theorem d_Ex_bringBestUp_29 : decode prog_3_method_6_code 29 = .ok (.getfield 33, 3) := by decide +kernel
theorem d_Ex_bringBestUp_32 : decode prog_3_method_6_code 32 = .ok (.getfield 46, 3) := by decide +kernel
theorem d_Ex_bringBestUp_35 : decode prog_3_method_6_code 35 = .ok (.ishl, 1) := by decide +kernel
theorem d_Ex_bringBestUp_36 : decode prog_3_method_6_code 36 = .ok (.iconst 1, 1) := by decide +kernel
theorem d_Ex_bringBestUp_37 : decode prog_3_method_6_code 37 = .ok (.isub, 1) := by decide +kernel
theorem d_Ex_bringBestUp_38 : decode prog_3_method_6_code 38 = .ok (.istore_n 2, 1) := by decide +kernel
theorem d_Ex_bringBestUp_39 : decode prog_3_method_6_code 39 = .ok (.aload_n 0, 1) := by decide +kernel
theorem d_Ex_bringBestUp_40 : decode prog_3_method_6_code 40 = .ok (.getfield 23, 3) := by decide +kernel
theorem d_Ex_bringBestUp_43 : decode prog_3_method_6_code 43 = .ok (.iload_n 2, 1) := by decide +kernel
theorem d_Ex_bringBestUp_44 : decode prog_3_method_6_code 44 = .ok (.iconst 0, 1) := by decide +kernel
theorem d_Ex_bringBestUp_45 : decode prog_3_method_6_code 45 = .ok (.iastore, 1) := by decide +kernel
theorem d_Ex_bringBestUp_46 : decode prog_3_method_6_code 46 = .ok (.iload_n 2, 1) := by decide +kernel
theorem d_Ex_bringBestUp_47 : decode prog_3_method_6_code 47 = .ok (.iconst 1, 1) := by decide +kernel
theorem d_Ex_bringBestUp_48 : decode prog_3_method_6_code 48 = .ok (.isub, 1) := by decide +kernel
theorem d_Ex_bringBestUp_49 : decode prog_3_method_6_code 49 = .ok (.istore_n 3, 1) := by decide +kernel
theorem d_Ex_bringBestUp_50 : decode prog_3_method_6_code 50 = .ok (.iload_n 3, 1) := by decide +kernel
theorem d_Ex_bringBestUp_51 : decode prog_3_method_6_code 51 = .ok (.ifCond .lt 35, 3) := by decide +kernel
theorem d_Ex_bringBestUp_54 : decode prog_3_method_6_code 54 = .ok (.iload_n 3, 1) := by decide +kernel
theorem d_Ex_bringBestUp_55 : decode prog_3_method_6_code 55 = .ok (.invokestatic 69, 3) := by decide +kernel
theorem d_Ex_bringBestUp_58 : decode prog_3_method_6_code 58 = .ok (.istore 4, 2) := by decide +kernel
theorem d_Ex_bringBestUp_60 : decode prog_3_method_6_code 60 = .ok (.aload_n 0, 1) := by decide +kernel
theorem d_Ex_bringBestUp_61 : decode prog_3_method_6_code 61 = .ok (.getfield 23, 3) := by decide +kernel
theorem d_Ex_bringBestUp_64 : decode prog_3_method_6_code 64 = .ok (.iload_n 3, 1) := by decide +kernel
theorem d_Ex_bringBestUp_65 : decode prog_3_method_6_code 65 = .ok (.aload_n 0, 1) := by decide +kernel
theorem d_Ex_bringBestUp_66 : decode prog_3_method_6_code 66 = .ok (.iload 4, 2) := by decide +kernel
theorem d_Ex_bringBestUp_68 : decode prog_3_method_6_code 68 = .ok (.aload_n 0, 1) := by decide +kernel
theorem d_Ex_bringBestUp_69 : decode prog_3_method_6_code 69 = .ok (.iload 4, 2) := by decide +kernel
theorem d_Ex_bringBestUp_71 : decode prog_3_method_6_code 71 = .ok (.iload_n 3, 1) := by decide +kernel
theorem d_Ex_bringBestUp_72 : decode prog_3_method_6_code 72 = .ok (.invokevirtual 75, 3) := by decide +kernel
theorem d_Ex_bringBestUp_75 : decode prog_3_method_6_code 75 = .ok (.iload_n 3, 1) := by decide +kernel
theorem d_Ex_bringBestUp_76 : decode prog_3_method_6_code 76 = .ok (.invokevirtual 79, 3) := by decide +kernel
theorem d_Ex_bringBestUp_79 : decode prog_3_method_6_code 79 = .ok (.iastore, 1) := by decide +kernel
theorem d_Ex_bringBestUp_80 : decode prog_3_method_6_code 80 = .ok (.iinc 3 (-1), 3) := by decide +kernel
theorem d_Ex_bringBestUp_83 : decode prog_3_method_6_code 83 = .ok (.goto (-33), 3) := by decide +kernel
theorem d_Ex_bringBestUp_86 : decode prog_3_method_6_code 86 = .ok (.aload_n 0, 1) := by decide +kernel
theorem d_Ex_bringBestUp_87 : decode prog_3_method_6_code 87 = .ok (.aload_n 0, 1) := by decide +kernel
theorem d_Ex_bringBestUp_88 : decode prog_3_method_6_code 88 = .ok (.getfield 23, 3) := by decide +kernel
theorem d_Ex_bringBestUp_91 : decode prog_3_method_6_code 91 = .ok (.iconst 0, 1) := by decide +kernel
theorem d_Ex_bringBestUp_92 : decode prog_3_method_6_code 92 = .ok (.iaload, 1) := by decide +kernel
theorem d_Ex_bringBestUp_93 : decode prog_3_method_6_code 93 = .ok (.putfield 83, 3) := by decide +kernel
theorem d_Ex_bringBestUp_96 : decode prog_3_method_6_code 96 = .ok (.iconst 0, 1) := by decide +kernel
theorem d_Ex_bringBestUp_97 : decode prog_3_method_6_code 97 = .ok (.istore_n 3, 1) := by decide +kernel
theorem d_Ex_bringBestUp_98 : decode prog_3_method_6_code 98 = .ok (.iconst 0, 1) := by decide +kernel
theorem d_Ex_bringBestUp_99 : decode prog_3_method_6_code 99 = .ok (.istore 4, 2) := by decide +kernel
theorem d_Ex_bringBestUp_101 : decode prog_3_method_6_code 101 = .ok (.iload 4, 2) := by decide +kernel
theorem d_Ex_bringBestUp_103 : decode prog_3_method_6_code 103 = .ok (.aload_n 0, 1) := by decide +kernel
theorem d_Ex_bringBestUp_104 : decode prog_3_method_6_code 104 = .ok (.getfield 33, 3) := by decide +kernel
theorem d_Ex_bringBestUp_107 : decode prog_3_method_6_code 107 = .ok (.getfield 46, 3) := by decide +kernel
theorem d_Ex_bringBestUp_110 : decode prog_3_method_6_code 110 = .ok (.if_icmp .ge 35, 3) := by decide +kernel
theorem d_Ex_bringBestUp_113 : decode prog_3_method_6_code 113 = .ok (.aload_n 0, 1) := by decide +kernel
theorem d_Ex_bringBestUp_114 : decode prog_3_method_6_code 114 = .ok (.getfield 20, 3) := by decide +kernel
theorem d_Ex_bringBestUp_117 : decode prog_3_method_6_code 117 = .ok (.iload 4, 2) := by decide +kernel
theorem d_Ex_bringBestUp_119 : decode prog_3_method_6_code 119 = .ok (.aload_n 0, 1) := by decide +kernel
theorem d_Ex_bringBestUp_120 : decode prog_3_method_6_code 120 = .ok (.iload 4, 2) := by decide +kernel
theorem d_Ex_bringBestUp_122 : decode prog_3_method_6_code 122 = .ok (.iload_n 3, 1) := by decide +kernel
theorem d_Ex_bringBestUp_123 : decode prog_3_method_6_code 123 = .ok (.invokevirtual 75, 3) := by decide +kernel
theorem d_Ex_bringBestUp_126 : decode prog_3_method_6_code 126 = .ok (.iastore, 1) := by decide +kernel
theorem d_Ex_bringBestUp_127 : decode prog_3_method_6_code 127 = .ok (.iload_n 3, 1) := by decide +kernel
theorem d_Ex_bringBestUp_128 : decode prog_3_method_6_code 128 = .ok (.iconst 1, 1) := by decide +kernel
theorem d_Ex_bringBestUp_129 : decode prog_3_method_6_code 129 = .ok (.aload_n 0, 1) := by decide +kernel
theorem d_Ex_bringBestUp_130 : decode prog_3_method_6_code 130 = .ok (.getfield 20, 3) := by decide +kernel
theorem d_Ex_bringBestUp_133 : decode prog_3_method_6_code 133 = .ok (.iload 4, 2) := by decide +kernel
theorem d_Ex_bringBestUp_135 : decode prog_3_method_6_code 135 = .ok (.iaload, 1) := by decide +kernel
theorem d_Ex_bringBestUp_136 : decode prog_3_method_6_code 136 = .ok (.ishl, 1) := by decide +kernel
theorem d_Ex_bringBestUp_137 : decode prog_3_method_6_code 137 = .ok (.ior, 1) := by decide +kernel
theorem d_Ex_bringBestUp_138 : decode prog_3_method_6_code 138 = .ok (.istore_n 3, 1) := by decide +kernel
theorem d_Ex_bringBestUp_139 : decode prog_3_method_6_code 139 = .ok (.iinc 4 1, 3) := by decide +kernel
theorem d_Ex_bringBestUp_142 : decode prog_3_method_6_code 142 = .ok (.goto (-41), 3) := by decide +kernel
theorem d_Ex_bringBestUp_145 : decode prog_3_method_6_code 145 = .ok (.return_, 1) := by decide +kernel
def b_Ex_bringBestUp_145 (c0 c1 c2 : ra_Sp) (I : Nat → ra_K) (Z : ra_R) : ra_K := w_vr Z
def b_Ex_bringBestUp_113 (c0 c1 c2 : ra_Sp) (I : Nat → ra_K) (Z : ra_R) : ra_K := w_al 0 <| w_gr 7 3 <| w_il 4 <| w_al 0 <| w_il 4 <| w_il 3 <| w_cv c1 3 7 <| w_ast <| w_il 3 <| w_c 1 <| w_al 0 <| w_gr 7 3 <| w_il 4 <| w_ald <| w_i2 (fun x y => x <<< (y &&& 31)) <| w_i2 (fun x y => x ||| y) <| w_is 3 <| w_inc 4 1 <| (I 101)
def b_Ex_bringBestUp_101 (c0 c1 c2 : ra_Sp) (I : Nat → ra_K) (Z : ra_R) : ra_K := w_il 4 <| w_al 0 <| w_gr 7 0 <| w_gi 1 8 <| w_b2 (fun x y => y ≤ x) (b_Ex_bringBestUp_145 c0 c1 c2 I Z) (b_Ex_bringBestUp_113 c0 c1 c2 I Z)
def b_Ex_bringBestUp_86 (c0 c1 c2 : ra_Sp) (I : Nat → ra_K) (Z : ra_R) : ra_K := w_al 0 <| w_al 0 <| w_gr 7 4 <| w_c 0 <| w_ald <| w_pi 7 7 <| w_c 0 <| w_is 3 <| w_c 0 <| w_is 4 <| (I 101)
def b_Ex_bringBestUp_54 (c0 c1 c2 : ra_Sp) (I : Nat → ra_K) (Z : ra_R) : ra_K := w_il 3 <| w_cs c0 1 <| w_is 4 <| w_al 0 <| w_gr 7 4 <| w_il 3 <| w_al 0 <| w_il 4 <| w_al 0 <| w_il 4 <| w_il 3 <| w_cv c1 3 7 <| w_il 3 <| w_cv c2 4 7 <| w_ast <| w_inc 3 (-1) <| (I 50)
def b_Ex_bringBestUp_50 (c0 c1 c2 : ra_Sp) (I : Nat → ra_K) (Z : ra_R) : ra_K := w_il 3 <| w_b1 (fun x => x < 0) (b_Ex_bringBestUp_86 c0 c1 c2 I Z) (b_Ex_bringBestUp_54 c0 c1 c2 I Z)
def b_Ex_bringBestUp_22 (c0 c1 c2 : ra_Sp) (I : Nat → ra_K) (Z : ra_R) : ra_K := w_al 0 <| w_il 1 <| w_pi 7 10 <| w_c 1 <| w_al 0 <| w_gr 7 0 <| w_gi 1 8 <| w_i2 (fun x y => x <<< (y &&& 31)) <| w_c 1 <| w_i2 (fun x y => x - y) <| w_is 2 <| w_al 0 <| w_gr 7 4 <| w_il 2 <| w_c 0 <| w_ast <| w_il 2 <| w_c 1 <| w_i2 (fun x y => x - y) <| w_is 3 <| (I 50)
def b_Ex_bringBestUp_21 (c0 c1 c2 : ra_Sp) (I : Nat → ra_K) (Z : ra_R) : ra_K := w_vr Z
def b_Ex_bringBestUp_0 (c0 c1 c2 : ra_Sp) (I : Nat → ra_K) (Z : ra_R) : ra_K := w_al 0 <| w_gr 7 0 <| w_gi 1 11 <| w_al 0 <| w_gi 7 8 <| w_i2 (fun x y => x + y) <| w_is 1 <| w_al 0 <| w_gi 7 10 <| w_il 1 <| w_b2 (fun x y => x = y) (b_Ex_bringBestUp_21 c0 c1 c2 I Z) (b_Ex_bringBestUp_22 c0 c1 c2 I Z)
theorem o_Ex_bringBestUp_145 {X : ra_X} {p : Program} {l : Launch} {e : Env} {s : State} {m : MethodId} {args : Array Value} {below : List Frame} {meth : Method} {c : Code} {Z : ra_R} {c0 c1 c2 : ra_Sp}  (h0 : ra_MOK l X mi_J_bitCount c0) (h1 : ra_MOK l X mi_Ex_bestRoof c1) (h2 : ra_MOK l X mi_Ex_had c2) (F : ra_Fx X p rm_Ex_bringBestUp s m args c prog_3_method_6_code 5 cn_Ex) (hr : meth.sig.returnType = none) (hlk : meth.locks = false) {I : Nat → ra_K} (hI : ∀ t ∈ [50, 101], ra_At X p l e rm_Ex_bringBestUp s m args below meth c 5 (MQ below (ra_Qc X Z) args s 0 0 (ra_A X)) (I t) t) : ra_At X p l e rm_Ex_bringBestUp s m args below meth c 5 (MQ below (ra_Qc X Z) args s 0 0 (ra_A X)) (b_Ex_bringBestUp_145 c0 c1 c2 I Z) 145 :=
  r_return F hr hlk d_Ex_bringBestUp_145
theorem o_Ex_bringBestUp_113 {X : ra_X} {p : Program} {l : Launch} {e : Env} {s : State} {m : MethodId} {args : Array Value} {below : List Frame} {meth : Method} {c : Code} {Z : ra_R} {c0 c1 c2 : ra_Sp}  (h0 : ra_MOK l X mi_J_bitCount c0) (h1 : ra_MOK l X mi_Ex_bestRoof c1) (h2 : ra_MOK l X mi_Ex_had c2) (F : ra_Fx X p rm_Ex_bringBestUp s m args c prog_3_method_6_code 5 cn_Ex) (hr : meth.sig.returnType = none) (hlk : meth.locks = false) {I : Nat → ra_K} (hI : ∀ t ∈ [50, 101], ra_At X p l e rm_Ex_bringBestUp s m args below meth c 5 (MQ below (ra_Qc X Z) args s 0 0 (ra_A X)) (I t) t) : ra_At X p l e rm_Ex_bringBestUp s m args below meth c 5 (MQ below (ra_Qc X Z) args s 0 0 (ra_A X)) (b_Ex_bringBestUp_113 c0 c1 c2 I Z) 113 :=
  r_aload_n F d_Ex_bringBestUp_113 rfl <| r_getR F cg_Ex (j := 3) (by decide) rfl fl_Ex_20 d_Ex_bringBestUp_114 <| r_iload F d_Ex_bringBestUp_117 <| r_aload_n F d_Ex_bringBestUp_119 rfl <| r_iload F d_Ex_bringBestUp_120 <| r_iload_n F d_Ex_bringBestUp_122 rfl <| r_callV F h1 (co_Ex_bestRoof (by decide +kernel) (by decide +kernel)) ⟨rfl, by decide +kernel⟩ ⟨rfl, by decide⟩ ml_Ex_75 im_Ex_bestRoof se_Ex_bestRoof d_Ex_bringBestUp_123 <| r_iastore F d_Ex_bringBestUp_126 <| r_iload_n F d_Ex_bringBestUp_127 rfl <| r_iconst F d_Ex_bringBestUp_128 (by decide) <| r_aload_n F d_Ex_bringBestUp_129 rfl <| r_getR F cg_Ex (j := 3) (by decide) rfl fl_Ex_20 d_Ex_bringBestUp_130 <| r_iload F d_Ex_bringBestUp_133 <| r_iaload F d_Ex_bringBestUp_135 <| r_ishl F d_Ex_bringBestUp_136 <| r_ior F d_Ex_bringBestUp_137 <| r_istore_n F d_Ex_bringBestUp_138 rfl (by decide) <| r_iinc F d_Ex_bringBestUp_139 (by decide) (by decide) <| r_goto F d_Ex_bringBestUp_142 (by decide) (hI 101 (by decide))
theorem o_Ex_bringBestUp_101 {X : ra_X} {p : Program} {l : Launch} {e : Env} {s : State} {m : MethodId} {args : Array Value} {below : List Frame} {meth : Method} {c : Code} {Z : ra_R} {c0 c1 c2 : ra_Sp}  (h0 : ra_MOK l X mi_J_bitCount c0) (h1 : ra_MOK l X mi_Ex_bestRoof c1) (h2 : ra_MOK l X mi_Ex_had c2) (F : ra_Fx X p rm_Ex_bringBestUp s m args c prog_3_method_6_code 5 cn_Ex) (hr : meth.sig.returnType = none) (hlk : meth.locks = false) {I : Nat → ra_K} (hI : ∀ t ∈ [50, 101], ra_At X p l e rm_Ex_bringBestUp s m args below meth c 5 (MQ below (ra_Qc X Z) args s 0 0 (ra_A X)) (I t) t) : ra_At X p l e rm_Ex_bringBestUp s m args below meth c 5 (MQ below (ra_Qc X Z) args s 0 0 (ra_A X)) (b_Ex_bringBestUp_101 c0 c1 c2 I Z) 101 :=
  r_iload F d_Ex_bringBestUp_101 <| r_aload_n F d_Ex_bringBestUp_103 rfl <| r_getR F cg_Ex (j := 0) (by decide) rfl fl_Ex_33 d_Ex_bringBestUp_104 <| r_getI F cg_V (j := 8) (by decide) rfl fl_Ex_46 d_Ex_bringBestUp_107 <| r_icmp_ge F d_Ex_bringBestUp_110 (by decide) (o_Ex_bringBestUp_145 h0 h1 h2 F hr hlk hI) (o_Ex_bringBestUp_113 h0 h1 h2 F hr hlk hI)
theorem o_Ex_bringBestUp_86 {X : ra_X} {p : Program} {l : Launch} {e : Env} {s : State} {m : MethodId} {args : Array Value} {below : List Frame} {meth : Method} {c : Code} {Z : ra_R} {c0 c1 c2 : ra_Sp}  (h0 : ra_MOK l X mi_J_bitCount c0) (h1 : ra_MOK l X mi_Ex_bestRoof c1) (h2 : ra_MOK l X mi_Ex_had c2) (F : ra_Fx X p rm_Ex_bringBestUp s m args c prog_3_method_6_code 5 cn_Ex) (hr : meth.sig.returnType = none) (hlk : meth.locks = false) {I : Nat → ra_K} (hI : ∀ t ∈ [50, 101], ra_At X p l e rm_Ex_bringBestUp s m args below meth c 5 (MQ below (ra_Qc X Z) args s 0 0 (ra_A X)) (I t) t) : ra_At X p l e rm_Ex_bringBestUp s m args below meth c 5 (MQ below (ra_Qc X Z) args s 0 0 (ra_A X)) (b_Ex_bringBestUp_86 c0 c1 c2 I Z) 86 :=
  r_aload_n F d_Ex_bringBestUp_86 rfl <| r_aload_n F d_Ex_bringBestUp_87 rfl <| r_getR F cg_Ex (j := 4) (by decide) rfl fl_Ex_23 d_Ex_bringBestUp_88 <| r_iconst F d_Ex_bringBestUp_91 (by decide) <| r_iaload F d_Ex_bringBestUp_92 <| r_putI F cg_Ex (j := 7) (by decide) rfl rfl rfl fl_Ex_83 d_Ex_bringBestUp_93 <| r_iconst F d_Ex_bringBestUp_96 (by decide) <| r_istore_n F d_Ex_bringBestUp_97 rfl (by decide) <| r_iconst F d_Ex_bringBestUp_98 (by decide) <| r_istore F d_Ex_bringBestUp_99 (by decide) <| (hI 101 (by decide))
theorem o_Ex_bringBestUp_54 {X : ra_X} {p : Program} {l : Launch} {e : Env} {s : State} {m : MethodId} {args : Array Value} {below : List Frame} {meth : Method} {c : Code} {Z : ra_R} {c0 c1 c2 : ra_Sp}  (h0 : ra_MOK l X mi_J_bitCount c0) (h1 : ra_MOK l X mi_Ex_bestRoof c1) (h2 : ra_MOK l X mi_Ex_had c2) (F : ra_Fx X p rm_Ex_bringBestUp s m args c prog_3_method_6_code 5 cn_Ex) (hr : meth.sig.returnType = none) (hlk : meth.locks = false) {I : Nat → ra_K} (hI : ∀ t ∈ [50, 101], ra_At X p l e rm_Ex_bringBestUp s m args below meth c 5 (MQ below (ra_Qc X Z) args s 0 0 (ra_A X)) (I t) t) : ra_At X p l e rm_Ex_bringBestUp s m args below meth c 5 (MQ below (ra_Qc X Z) args s 0 0 (ra_A X)) (b_Ex_bringBestUp_54 c0 c1 c2 I Z) 54 :=
  r_iload_n F d_Ex_bringBestUp_54 rfl <| r_callS F h0 (co_J_bitCount (by decide +kernel) (by decide +kernel)) ⟨rfl, by decide +kernel⟩ ml_Ex_69 st_J_bitCount d_Ex_bringBestUp_55 <| r_istore F d_Ex_bringBestUp_58 (by decide) <| r_aload_n F d_Ex_bringBestUp_60 rfl <| r_getR F cg_Ex (j := 4) (by decide) rfl fl_Ex_23 d_Ex_bringBestUp_61 <| r_iload_n F d_Ex_bringBestUp_64 rfl <| r_aload_n F d_Ex_bringBestUp_65 rfl <| r_iload F d_Ex_bringBestUp_66 <| r_aload_n F d_Ex_bringBestUp_68 rfl <| r_iload F d_Ex_bringBestUp_69 <| r_iload_n F d_Ex_bringBestUp_71 rfl <| r_callV F h1 (co_Ex_bestRoof (by decide +kernel) (by decide +kernel)) ⟨rfl, by decide +kernel⟩ ⟨rfl, by decide⟩ ml_Ex_75 im_Ex_bestRoof se_Ex_bestRoof d_Ex_bringBestUp_72 <| r_iload_n F d_Ex_bringBestUp_75 rfl <| r_callV F h2 (co_Ex_had (by decide +kernel) (by decide +kernel)) ⟨rfl, by decide +kernel⟩ ⟨rfl, by decide⟩ ml_Ex_79 im_Ex_had se_Ex_had d_Ex_bringBestUp_76 <| r_iastore F d_Ex_bringBestUp_79 <| r_iinc F d_Ex_bringBestUp_80 (by decide) (by decide) <| r_goto F d_Ex_bringBestUp_83 (by decide) (hI 50 (by decide))
theorem o_Ex_bringBestUp_50 {X : ra_X} {p : Program} {l : Launch} {e : Env} {s : State} {m : MethodId} {args : Array Value} {below : List Frame} {meth : Method} {c : Code} {Z : ra_R} {c0 c1 c2 : ra_Sp}  (h0 : ra_MOK l X mi_J_bitCount c0) (h1 : ra_MOK l X mi_Ex_bestRoof c1) (h2 : ra_MOK l X mi_Ex_had c2) (F : ra_Fx X p rm_Ex_bringBestUp s m args c prog_3_method_6_code 5 cn_Ex) (hr : meth.sig.returnType = none) (hlk : meth.locks = false) {I : Nat → ra_K} (hI : ∀ t ∈ [50, 101], ra_At X p l e rm_Ex_bringBestUp s m args below meth c 5 (MQ below (ra_Qc X Z) args s 0 0 (ra_A X)) (I t) t) : ra_At X p l e rm_Ex_bringBestUp s m args below meth c 5 (MQ below (ra_Qc X Z) args s 0 0 (ra_A X)) (b_Ex_bringBestUp_50 c0 c1 c2 I Z) 50 :=
  r_iload_n F d_Ex_bringBestUp_50 rfl <| r_if_lt F d_Ex_bringBestUp_51 (by decide) (o_Ex_bringBestUp_86 h0 h1 h2 F hr hlk hI) (o_Ex_bringBestUp_54 h0 h1 h2 F hr hlk hI)
theorem o_Ex_bringBestUp_22 {X : ra_X} {p : Program} {l : Launch} {e : Env} {s : State} {m : MethodId} {args : Array Value} {below : List Frame} {meth : Method} {c : Code} {Z : ra_R} {c0 c1 c2 : ra_Sp}  (h0 : ra_MOK l X mi_J_bitCount c0) (h1 : ra_MOK l X mi_Ex_bestRoof c1) (h2 : ra_MOK l X mi_Ex_had c2) (F : ra_Fx X p rm_Ex_bringBestUp s m args c prog_3_method_6_code 5 cn_Ex) (hr : meth.sig.returnType = none) (hlk : meth.locks = false) {I : Nat → ra_K} (hI : ∀ t ∈ [50, 101], ra_At X p l e rm_Ex_bringBestUp s m args below meth c 5 (MQ below (ra_Qc X Z) args s 0 0 (ra_A X)) (I t) t) : ra_At X p l e rm_Ex_bringBestUp s m args below meth c 5 (MQ below (ra_Qc X Z) args s 0 0 (ra_A X)) (b_Ex_bringBestUp_22 c0 c1 c2 I Z) 22 :=
  r_aload_n F d_Ex_bringBestUp_22 rfl <| r_iload_n F d_Ex_bringBestUp_23 rfl <| r_putI F cg_Ex (j := 10) (by decide) rfl rfl rfl fl_Ex_30 d_Ex_bringBestUp_24 <| r_iconst F d_Ex_bringBestUp_27 (by decide) <| r_aload_n F d_Ex_bringBestUp_28 rfl <| r_getR F cg_Ex (j := 0) (by decide) rfl fl_Ex_33 d_Ex_bringBestUp_29 <| r_getI F cg_V (j := 8) (by decide) rfl fl_Ex_46 d_Ex_bringBestUp_32 <| r_ishl F d_Ex_bringBestUp_35 <| r_iconst F d_Ex_bringBestUp_36 (by decide) <| r_isub F d_Ex_bringBestUp_37 <| r_istore_n F d_Ex_bringBestUp_38 rfl (by decide) <| r_aload_n F d_Ex_bringBestUp_39 rfl <| r_getR F cg_Ex (j := 4) (by decide) rfl fl_Ex_23 d_Ex_bringBestUp_40 <| r_iload_n F d_Ex_bringBestUp_43 rfl <| r_iconst F d_Ex_bringBestUp_44 (by decide) <| r_iastore F d_Ex_bringBestUp_45 <| r_iload_n F d_Ex_bringBestUp_46 rfl <| r_iconst F d_Ex_bringBestUp_47 (by decide) <| r_isub F d_Ex_bringBestUp_48 <| r_istore_n F d_Ex_bringBestUp_49 rfl (by decide) <| (hI 50 (by decide))
theorem o_Ex_bringBestUp_21 {X : ra_X} {p : Program} {l : Launch} {e : Env} {s : State} {m : MethodId} {args : Array Value} {below : List Frame} {meth : Method} {c : Code} {Z : ra_R} {c0 c1 c2 : ra_Sp}  (h0 : ra_MOK l X mi_J_bitCount c0) (h1 : ra_MOK l X mi_Ex_bestRoof c1) (h2 : ra_MOK l X mi_Ex_had c2) (F : ra_Fx X p rm_Ex_bringBestUp s m args c prog_3_method_6_code 5 cn_Ex) (hr : meth.sig.returnType = none) (hlk : meth.locks = false) {I : Nat → ra_K} (hI : ∀ t ∈ [50, 101], ra_At X p l e rm_Ex_bringBestUp s m args below meth c 5 (MQ below (ra_Qc X Z) args s 0 0 (ra_A X)) (I t) t) : ra_At X p l e rm_Ex_bringBestUp s m args below meth c 5 (MQ below (ra_Qc X Z) args s 0 0 (ra_A X)) (b_Ex_bringBestUp_21 c0 c1 c2 I Z) 21 :=
  r_return F hr hlk d_Ex_bringBestUp_21
theorem o_Ex_bringBestUp_0 {X : ra_X} {p : Program} {l : Launch} {e : Env} {s : State} {m : MethodId} {args : Array Value} {below : List Frame} {meth : Method} {c : Code} {Z : ra_R} {c0 c1 c2 : ra_Sp}  (h0 : ra_MOK l X mi_J_bitCount c0) (h1 : ra_MOK l X mi_Ex_bestRoof c1) (h2 : ra_MOK l X mi_Ex_had c2) (F : ra_Fx X p rm_Ex_bringBestUp s m args c prog_3_method_6_code 5 cn_Ex) (hr : meth.sig.returnType = none) (hlk : meth.locks = false) {I : Nat → ra_K} (hI : ∀ t ∈ [50, 101], ra_At X p l e rm_Ex_bringBestUp s m args below meth c 5 (MQ below (ra_Qc X Z) args s 0 0 (ra_A X)) (I t) t) : ra_At X p l e rm_Ex_bringBestUp s m args below meth c 5 (MQ below (ra_Qc X Z) args s 0 0 (ra_A X)) (b_Ex_bringBestUp_0 c0 c1 c2 I Z) 0 :=
  r_aload_n F d_Ex_bringBestUp_0 rfl <| r_getR F cg_Ex (j := 0) (by decide) rfl fl_Ex_33 d_Ex_bringBestUp_1 <| r_getI F cg_V (j := 11) (by decide) rfl fl_Ex_40 d_Ex_bringBestUp_4 <| r_aload_n F d_Ex_bringBestUp_7 rfl <| r_getI F cg_Ex (j := 8) (by decide) rfl fl_Ex_37 d_Ex_bringBestUp_8 <| r_iadd F d_Ex_bringBestUp_11 <| r_istore_n F d_Ex_bringBestUp_12 rfl (by decide) <| r_aload_n F d_Ex_bringBestUp_13 rfl <| r_getI F cg_Ex (j := 10) (by decide) rfl fl_Ex_30 d_Ex_bringBestUp_14 <| r_iload_n F d_Ex_bringBestUp_17 rfl <| r_icmp_ne F d_Ex_bringBestUp_18 (by decide) (o_Ex_bringBestUp_22 h0 h1 h2 F hr hlk hI) (o_Ex_bringBestUp_21 h0 h1 h2 F hr hlk hI)
theorem g_Ex_bringBestUp {l : Launch} {X : ra_X} {c0 c1 c2 : ra_Sp}  (h0 : ra_MOK l X mi_J_bitCount c0) (h1 : ra_MOK l X mi_Ex_bestRoof c1) (h2 : ra_MOK l X mi_Ex_had c2) (sp : ra_Sp) (I : ra_R → List Value → ra_St → Nat → ra_M → ra_K) (ve : ∀ as σ Z, ra_c1 as = true → as.length = 1 → sp as σ Z → b_Ex_bringBestUp_0 c0 c1 c2 (ra_I (I Z as σ)) Z (ra_pad 5 as) [] σ) (v50 : ∀ as σ Z, sp as σ Z → ∀ μ L S σ1, I Z as σ 50 μ L S σ1 → b_Ex_bringBestUp_50 c0 c1 c2 (ra_J (I Z as σ) μ) Z L S σ1) (v101 : ∀ as σ Z, sp as σ Z → ∀ μ L S σ1, I Z as σ 101 μ L S σ1 → b_Ex_bringBestUp_101 c0 c1 c2 (ra_J (I Z as σ) μ) Z L S σ1) : ra_MOK l X mi_Ex_bringBestUp sp := by
  refine ra_enter (k := fun Z as σ => b_Ex_bringBestUp_0 c0 c1 c2 (ra_I (I Z as σ)) Z) cn_Ex rfl (by decide +kernel) ⟨by decide +kernel, by decide +kernel⟩ (by decide +kernel) ?_ ve
  intro p e s m args below meth c Z as σ hsp F hr hlk
  refine o_Ex_bringBestUp_0 h0 h1 h2 F hr hlk (ra_cuts (b := fun t J => if t = 50 then b_Ex_bringBestUp_50 c0 c1 c2 J Z else if t = 101 then b_Ex_bringBestUp_101 c0 c1 c2 J Z else fun _ _ _ => False) ?_ ?_)
  · intro t ht J hJ
    simp only [List.mem_cons, List.not_mem_nil, or_false] at ht
    rcases ht with rfl | rfl
    · exact o_Ex_bringBestUp_50 h0 h1 h2 F hr hlk hJ
    · exact o_Ex_bringBestUp_101 h0 h1 h2 F hr hlk hJ
  · intro t ht μ L S σ1 hI
    simp only [List.mem_cons, List.not_mem_nil, or_false] at ht
    rcases ht with rfl | rfl
    · exact v50 as σ Z hsp μ L S σ1 hI
    · exact v101 as σ Z hsp μ L S σ1 hI

theorem d_R_best_0 : decode prog_1_method_20_code 0 = .ok (.iload_n 1, 1) := by decide +kernel
theorem d_R_best_1 : decode prog_1_method_20_code 1 = .ok (.iconst (-1), 1) := by decide +kernel
theorem d_R_best_2 : decode prog_1_method_20_code 2 = .ok (.if_icmp .eq 14, 3) := by decide +kernel
theorem d_R_best_5 : decode prog_1_method_20_code 5 = .ok (.aload_n 0, 1) := by decide +kernel
theorem d_R_best_6 : decode prog_1_method_20_code 6 = .ok (.iload_n 1, 1) := by decide +kernel
theorem d_R_best_7 : decode prog_1_method_20_code 7 = .ok (.invokevirtual 96, 3) := by decide +kernel
theorem d_R_best_10 : decode prog_1_method_20_code 10 = .ok (.ifCond .eq 6, 3) := by decide +kernel
theorem d_R_best_13 : decode prog_1_method_20_code 13 = .ok (.bipush (-2), 2) := by decide +kernel
theorem d_R_best_15 : decode prog_1_method_20_code 15 = .ok (.ireturn, 1) := by decide +kernel
theorem d_R_best_16 : decode prog_1_method_20_code 16 = .ok (.aload_n 0, 1) := by decide +kernel
theorem d_R_best_17 : decode prog_1_method_20_code 17 = .ok (.getfield 44, 3) := by decide +kernel
theorem d_R_best_20 : decode prog_1_method_20_code 20 = .ok (.invokevirtual 201, 3) := by decide +kernel
theorem d_R_best_23 : decode prog_1_method_20_code 23 = .ok (.iload_n 1, 1) := by decide +kernel
theorem d_R_best_24 : decode prog_1_method_20_code 24 = .ok (.iconst (-1), 1) := by decide +kernel
theorem d_R_best_25 : decode prog_1_method_20_code 25 = .ok (.if_icmp .ne 13, 3) := by decide +kernel
theorem d_R_best_28 : decode prog_1_method_20_code 28 = .ok (.aload_n 0, 1) := by decide +kernel
theorem d_R_best_29 : decode prog_1_method_20_code 29 = .ok (.getfield 44, 3) := by decide +kernel
theorem d_R_best_32 : decode prog_1_method_20_code 32 = .ok (.getfield 204, 3) := by decide +kernel
theorem d_R_best_35 : decode prog_1_method_20_code 35 = .ok (.goto 12, 3) := by decide +kernel
theorem d_R_best_38 : decode prog_1_method_20_code 38 = .ok (.aload_n 0, 1) := by decide +kernel
theorem d_R_best_39 : decode prog_1_method_20_code 39 = .ok (.getfield 44, 3) := by decide +kernel
theorem d_R_best_42 : decode prog_1_method_20_code 42 = .ok (.getfield 207, 3) := by decide +kernel
theorem d_R_best_45 : decode prog_1_method_20_code 45 = .ok (.iload_n 1, 1) := by decide +kernel
theorem d_R_best_46 : decode prog_1_method_20_code 46 = .ok (.iaload, 1) := by decide +kernel
theorem d_R_best_47 : decode prog_1_method_20_code 47 = .ok (.ireturn, 1) := by decide +kernel
def b_R_best_47 (c0 c1 : ra_Sp) (Z : ra_R) : ra_K := w_ir Z
def b_R_best_38 (c0 c1 : ra_Sp) (Z : ra_R) : ra_K := w_al 0 <| w_gr 0 4 <| w_gr 7 3 <| w_il 1 <| w_ald <| (b_R_best_47 c0 c1 Z)
def b_R_best_28 (c0 c1 : ra_Sp) (Z : ra_R) : ra_K := w_al 0 <| w_gr 0 4 <| w_gi 7 7 <| (b_R_best_47 c0 c1 Z)
def b_R_best_16 (c0 c1 : ra_Sp) (Z : ra_R) : ra_K := w_al 0 <| w_gr 0 4 <| w_cv c1 1 7 <| w_il 1 <| w_c (-1) <| w_b2 (fun x y => x = y) (b_R_best_28 c0 c1 Z) (b_R_best_38 c0 c1 Z)
def b_R_best_13 (c0 c1 : ra_Sp) (Z : ra_R) : ra_K := w_c (-2) <| w_ir Z
def b_R_best_5 (c0 c1 : ra_Sp) (Z : ra_R) : ra_K := w_al 0 <| w_il 1 <| w_cv c0 2 0 <| w_b1 (fun x => x = 0) (b_R_best_16 c0 c1 Z) (b_R_best_13 c0 c1 Z)
def b_R_best_0 (c0 c1 : ra_Sp) (Z : ra_R) : ra_K := w_il 1 <| w_c (-1) <| w_b2 (fun x y => x = y) (b_R_best_16 c0 c1 Z) (b_R_best_5 c0 c1 Z)
theorem o_R_best_47 {X : ra_X} {p : Program} {l : Launch} {e : Env} {s : State} {m : MethodId} {args : Array Value} {below : List Frame} {meth : Method} {c : Code} {Z : ra_R} {c0 c1 : ra_Sp}  (h0 : ra_MOK l X mi_R_isNoHouse c0) (h1 : ra_MOK l X mi_Ex_bringBestUp c1) (F : ra_Fx X p rm_R_best s m args c prog_1_method_20_code 2 cn_R) (hr : meth.sig.returnType = (some .int)) (hlk : meth.locks = false) : ra_At X p l e rm_R_best s m args below meth c 2 (MQ below (ra_Qc X Z) args s 0 0 (ra_A X)) (b_R_best_47 c0 c1 Z) 47 :=
  r_ireturn F hr hlk d_R_best_47
theorem o_R_best_38 {X : ra_X} {p : Program} {l : Launch} {e : Env} {s : State} {m : MethodId} {args : Array Value} {below : List Frame} {meth : Method} {c : Code} {Z : ra_R} {c0 c1 : ra_Sp}  (h0 : ra_MOK l X mi_R_isNoHouse c0) (h1 : ra_MOK l X mi_Ex_bringBestUp c1) (F : ra_Fx X p rm_R_best s m args c prog_1_method_20_code 2 cn_R) (hr : meth.sig.returnType = (some .int)) (hlk : meth.locks = false) : ra_At X p l e rm_R_best s m args below meth c 2 (MQ below (ra_Qc X Z) args s 0 0 (ra_A X)) (b_R_best_38 c0 c1 Z) 38 :=
  r_aload_n F d_R_best_38 rfl <| r_getR F cg_R (j := 4) (by decide) rfl fl_R_44 d_R_best_39 <| r_getR F cg_Ex (j := 3) (by decide) rfl fl_R_207 d_R_best_42 <| r_iload_n F d_R_best_45 rfl <| r_iaload F d_R_best_46 <| (o_R_best_47 h0 h1 F hr hlk)
theorem o_R_best_28 {X : ra_X} {p : Program} {l : Launch} {e : Env} {s : State} {m : MethodId} {args : Array Value} {below : List Frame} {meth : Method} {c : Code} {Z : ra_R} {c0 c1 : ra_Sp}  (h0 : ra_MOK l X mi_R_isNoHouse c0) (h1 : ra_MOK l X mi_Ex_bringBestUp c1) (F : ra_Fx X p rm_R_best s m args c prog_1_method_20_code 2 cn_R) (hr : meth.sig.returnType = (some .int)) (hlk : meth.locks = false) : ra_At X p l e rm_R_best s m args below meth c 2 (MQ below (ra_Qc X Z) args s 0 0 (ra_A X)) (b_R_best_28 c0 c1 Z) 28 :=
  r_aload_n F d_R_best_28 rfl <| r_getR F cg_R (j := 4) (by decide) rfl fl_R_44 d_R_best_29 <| r_getI F cg_Ex (j := 7) (by decide) rfl fl_R_204 d_R_best_32 <| r_goto F d_R_best_35 (by decide) (o_R_best_47 h0 h1 F hr hlk)
theorem o_R_best_16 {X : ra_X} {p : Program} {l : Launch} {e : Env} {s : State} {m : MethodId} {args : Array Value} {below : List Frame} {meth : Method} {c : Code} {Z : ra_R} {c0 c1 : ra_Sp}  (h0 : ra_MOK l X mi_R_isNoHouse c0) (h1 : ra_MOK l X mi_Ex_bringBestUp c1) (F : ra_Fx X p rm_R_best s m args c prog_1_method_20_code 2 cn_R) (hr : meth.sig.returnType = (some .int)) (hlk : meth.locks = false) : ra_At X p l e rm_R_best s m args below meth c 2 (MQ below (ra_Qc X Z) args s 0 0 (ra_A X)) (b_R_best_16 c0 c1 Z) 16 :=
  r_aload_n F d_R_best_16 rfl <| r_getR F cg_R (j := 4) (by decide) rfl fl_R_44 d_R_best_17 <| r_callV F h1 (co_Ex_bringBestUp (by decide +kernel) (by decide +kernel)) ⟨rfl, by decide +kernel⟩ ⟨rfl, by decide⟩ ml_R_201 im_Ex_bringBestUp se_Ex_bringBestUp d_R_best_20 <| r_iload_n F d_R_best_23 rfl <| r_iconst F d_R_best_24 (by decide) <| r_icmp_ne F d_R_best_25 (by decide) (o_R_best_38 h0 h1 F hr hlk) (o_R_best_28 h0 h1 F hr hlk)
theorem o_R_best_13 {X : ra_X} {p : Program} {l : Launch} {e : Env} {s : State} {m : MethodId} {args : Array Value} {below : List Frame} {meth : Method} {c : Code} {Z : ra_R} {c0 c1 : ra_Sp}  (h0 : ra_MOK l X mi_R_isNoHouse c0) (h1 : ra_MOK l X mi_Ex_bringBestUp c1) (F : ra_Fx X p rm_R_best s m args c prog_1_method_20_code 2 cn_R) (hr : meth.sig.returnType = (some .int)) (hlk : meth.locks = false) : ra_At X p l e rm_R_best s m args below meth c 2 (MQ below (ra_Qc X Z) args s 0 0 (ra_A X)) (b_R_best_13 c0 c1 Z) 13 :=
  r_bipush F d_R_best_13 (by decide) <| r_ireturn F hr hlk d_R_best_15
theorem o_R_best_5 {X : ra_X} {p : Program} {l : Launch} {e : Env} {s : State} {m : MethodId} {args : Array Value} {below : List Frame} {meth : Method} {c : Code} {Z : ra_R} {c0 c1 : ra_Sp}  (h0 : ra_MOK l X mi_R_isNoHouse c0) (h1 : ra_MOK l X mi_Ex_bringBestUp c1) (F : ra_Fx X p rm_R_best s m args c prog_1_method_20_code 2 cn_R) (hr : meth.sig.returnType = (some .int)) (hlk : meth.locks = false) : ra_At X p l e rm_R_best s m args below meth c 2 (MQ below (ra_Qc X Z) args s 0 0 (ra_A X)) (b_R_best_5 c0 c1 Z) 5 :=
  r_aload_n F d_R_best_5 rfl <| r_iload_n F d_R_best_6 rfl <| r_callV F h0 (co_R_isNoHouse (by decide +kernel) (by decide +kernel)) ⟨rfl, by decide +kernel⟩ ⟨rfl, by decide⟩ ml_R_96 im_R_isNoHouse se_R_isNoHouse d_R_best_7 <| r_if_eq F d_R_best_10 (by decide) (o_R_best_16 h0 h1 F hr hlk) (o_R_best_13 h0 h1 F hr hlk)
theorem o_R_best_0 {X : ra_X} {p : Program} {l : Launch} {e : Env} {s : State} {m : MethodId} {args : Array Value} {below : List Frame} {meth : Method} {c : Code} {Z : ra_R} {c0 c1 : ra_Sp}  (h0 : ra_MOK l X mi_R_isNoHouse c0) (h1 : ra_MOK l X mi_Ex_bringBestUp c1) (F : ra_Fx X p rm_R_best s m args c prog_1_method_20_code 2 cn_R) (hr : meth.sig.returnType = (some .int)) (hlk : meth.locks = false) : ra_At X p l e rm_R_best s m args below meth c 2 (MQ below (ra_Qc X Z) args s 0 0 (ra_A X)) (b_R_best_0 c0 c1 Z) 0 :=
  r_iload_n F d_R_best_0 rfl <| r_iconst F d_R_best_1 (by decide) <| r_icmp_eq F d_R_best_2 (by decide) (o_R_best_16 h0 h1 F hr hlk) (o_R_best_5 h0 h1 F hr hlk)
theorem g_R_best {l : Launch} {X : ra_X} {c0 c1 : ra_Sp}  (h0 : ra_MOK l X mi_R_isNoHouse c0) (h1 : ra_MOK l X mi_Ex_bringBestUp c1) (sp : ra_Sp) (ve : ∀ as σ Z, ra_c1 as = true → as.length = 2 → sp as σ Z → b_R_best_0 c0 c1 Z (ra_pad 2 as) [] σ) : ra_MOK l X mi_R_best sp := by
  refine ra_enter (k := fun Z as σ => b_R_best_0 c0 c1 Z) cn_R rfl (by decide +kernel) ⟨by decide +kernel, by decide +kernel⟩ (by decide +kernel) ?_ ve
  intro p e s m args below meth c Z as σ hsp F hr hlk
  exact o_R_best_0 h0 h1 F hr hlk

theorem d_Kn_learn_0 : decode prog_5_method_2_code 0 = .ok (.aload_n 0, 1) := by decide +kernel
theorem d_Kn_learn_1 : decode prog_5_method_2_code 1 = .ok (.getfield 43, 3) := by decide +kernel
theorem d_Kn_learn_4 : decode prog_5_method_2_code 4 = .ok (.bipush 12, 2) := by decide +kernel
theorem d_Kn_learn_6 : decode prog_5_method_2_code 6 = .ok (.if_icmp .lt 6, 3) := by decide +kernel
theorem d_Kn_learn_9 : decode prog_5_method_2_code 9 = .ok (.bipush (-4), 2) := by decide +kernel
theorem d_Kn_learn_11 : decode prog_5_method_2_code 11 = .ok (.ireturn, 1) := by decide +kernel
theorem d_Kn_learn_12 : decode prog_5_method_2_code 12 = .ok (.aload_n 0, 1) := by decide +kernel
theorem d_Kn_learn_13 : decode prog_5_method_2_code 13 = .ok (.getfield 9, 3) := by decide +kernel
theorem d_Kn_learn_16 : decode prog_5_method_2_code 16 = .ok (.aload_n 0, 1) := by decide +kernel
theorem d_Kn_learn_17 : decode prog_5_method_2_code 17 = .ok (.getfield 43, 3) := by decide +kernel
theorem d_Kn_learn_20 : decode prog_5_method_2_code 20 = .ok (.iload_n 1, 1) := by decide +kernel
theorem d_Kn_learn_21 : decode prog_5_method_2_code 21 = .ok (.iastore, 1) := by decide +kernel
theorem d_Kn_learn_22 : decode prog_5_method_2_code 22 = .ok (.aload_n 0, 1) := by decide +kernel
theorem d_Kn_learn_23 : decode prog_5_method_2_code 23 = .ok (.getfield 15, 3) := by decide +kernel
theorem d_Kn_learn_26 : decode prog_5_method_2_code 26 = .ok (.aload_n 0, 1) := by decide +kernel
theorem d_Kn_learn_27 : decode prog_5_method_2_code 27 = .ok (.getfield 43, 3) := by decide +kernel
theorem d_Kn_learn_30 : decode prog_5_method_2_code 30 = .ok (.iload_n 2, 1) := by decide +kernel
theorem d_Kn_learn_31 : decode prog_5_method_2_code 31 = .ok (.iastore, 1) := by decide +kernel
theorem d_Kn_learn_32 : decode prog_5_method_2_code 32 = .ok (.aload_n 0, 1) := by decide +kernel
theorem d_Kn_learn_33 : decode prog_5_method_2_code 33 = .ok (.getfield 18, 3) := by decide +kernel
theorem d_Kn_learn_36 : decode prog_5_method_2_code 36 = .ok (.aload_n 0, 1) := by decide +kernel
theorem d_Kn_learn_37 : decode prog_5_method_2_code 37 = .ok (.getfield 43, 3) := by decide +kernel
theorem d_Kn_learn_40 : decode prog_5_method_2_code 40 = .ok (.iload_n 3, 1) := by decide +kernel
theorem d_Kn_learn_41 : decode prog_5_method_2_code 41 = .ok (.iastore, 1) := by decide +kernel
theorem d_Kn_learn_42 : decode prog_5_method_2_code 42 = .ok (.aload_n 0, 1) := by decide +kernel
theorem d_Kn_learn_43 : decode prog_5_method_2_code 43 = .ok (.dup, 1) := by decide +kernel
theorem d_Kn_learn_44 : decode prog_5_method_2_code 44 = .ok (.getfield 43, 3) := by decide +kernel
theorem d_Kn_learn_47 : decode prog_5_method_2_code 47 = .ok (.iconst 1, 1) := by decide +kernel
theorem d_Kn_learn_48 : decode prog_5_method_2_code 48 = .ok (.iadd, 1) := by decide +kernel
theorem d_Kn_learn_49 : decode prog_5_method_2_code 49 = .ok (.putfield 43, 3) := by decide +kernel
theorem d_Kn_learn_52 : decode prog_5_method_2_code 52 = .ok (.aload_n 0, 1) := by decide +kernel
theorem d_Kn_learn_53 : decode prog_5_method_2_code 53 = .ok (.dup, 1) := by decide +kernel
theorem d_Kn_learn_54 : decode prog_5_method_2_code 54 = .ok (.getfield 46, 3) := by decide +kernel
theorem d_Kn_learn_57 : decode prog_5_method_2_code 57 = .ok (.iconst 1, 1) := by decide +kernel
theorem d_Kn_learn_58 : decode prog_5_method_2_code 58 = .ok (.iadd, 1) := by decide +kernel
theorem d_Kn_learn_59 : decode prog_5_method_2_code 59 = .ok (.putfield 46, 3) := by decide +kernel
theorem d_Kn_learn_62 : decode prog_5_method_2_code 62 = .ok (.aload_n 0, 1) := by decide +kernel
theorem d_Kn_learn_63 : decode prog_5_method_2_code 63 = .ok (.getfield 43, 3) := by decide +kernel
theorem d_Kn_learn_66 : decode prog_5_method_2_code 66 = .ok (.ireturn, 1) := by decide +kernel
def b_Kn_learn_12 (Z : ra_R) : ra_K := w_al 0 <| w_gr 8 1 <| w_al 0 <| w_gi 8 8 <| w_il 1 <| w_ast <| w_al 0 <| w_gr 8 2 <| w_al 0 <| w_gi 8 8 <| w_il 2 <| w_ast <| w_al 0 <| w_gr 8 3 <| w_al 0 <| w_gi 8 8 <| w_il 3 <| w_ast <| w_al 0 <| w_dup <| w_gi 8 8 <| w_c 1 <| w_i2 (fun x y => x + y) <| w_pi 8 8 <| w_al 0 <| w_dup <| w_gi 8 10 <| w_c 1 <| w_i2 (fun x y => x + y) <| w_pi 8 10 <| w_al 0 <| w_gi 8 8 <| w_ir Z
def b_Kn_learn_9 (Z : ra_R) : ra_K := w_c (-4) <| w_ir Z
def b_Kn_learn_0 (Z : ra_R) : ra_K := w_al 0 <| w_gi 8 8 <| w_c 12 <| w_b2 (fun x y => x < y) (b_Kn_learn_12 Z) (b_Kn_learn_9 Z)
theorem o_Kn_learn_12 {X : ra_X} {p : Program} {l : Launch} {e : Env} {s : State} {m : MethodId} {args : Array Value} {below : List Frame} {meth : Method} {c : Code} {Z : ra_R}  (F : ra_Fx X p rm_Kn_learn s m args c prog_5_method_2_code 4 cn_Kn) (hr : meth.sig.returnType = (some .int)) (hlk : meth.locks = false) : ra_At X p l e rm_Kn_learn s m args below meth c 4 (MQ below (ra_Qc X Z) args s 0 0 (ra_A X)) (b_Kn_learn_12 Z) 12 :=
  r_aload_n F d_Kn_learn_12 rfl <| r_getR F cg_Kn (j := 1) (by decide) rfl fl_Kn_9 d_Kn_learn_13 <| r_aload_n F d_Kn_learn_16 rfl <| r_getI F cg_Kn (j := 8) (by decide) rfl fl_Kn_43 d_Kn_learn_17 <| r_iload_n F d_Kn_learn_20 rfl <| r_iastore F d_Kn_learn_21 <| r_aload_n F d_Kn_learn_22 rfl <| r_getR F cg_Kn (j := 2) (by decide) rfl fl_Kn_15 d_Kn_learn_23 <| r_aload_n F d_Kn_learn_26 rfl <| r_getI F cg_Kn (j := 8) (by decide) rfl fl_Kn_43 d_Kn_learn_27 <| r_iload_n F d_Kn_learn_30 rfl <| r_iastore F d_Kn_learn_31 <| r_aload_n F d_Kn_learn_32 rfl <| r_getR F cg_Kn (j := 3) (by decide) rfl fl_Kn_18 d_Kn_learn_33 <| r_aload_n F d_Kn_learn_36 rfl <| r_getI F cg_Kn (j := 8) (by decide) rfl fl_Kn_43 d_Kn_learn_37 <| r_iload_n F d_Kn_learn_40 rfl <| r_iastore F d_Kn_learn_41 <| r_aload_n F d_Kn_learn_42 rfl <| r_dup F d_Kn_learn_43 <| r_getI F cg_Kn (j := 8) (by decide) rfl fl_Kn_43 d_Kn_learn_44 <| r_iconst F d_Kn_learn_47 (by decide) <| r_iadd F d_Kn_learn_48 <| r_putI F cg_Kn (j := 8) (by decide) rfl rfl rfl fl_Kn_43 d_Kn_learn_49 <| r_aload_n F d_Kn_learn_52 rfl <| r_dup F d_Kn_learn_53 <| r_getI F cg_Kn (j := 10) (by decide) rfl fl_Kn_46 d_Kn_learn_54 <| r_iconst F d_Kn_learn_57 (by decide) <| r_iadd F d_Kn_learn_58 <| r_putI F cg_Kn (j := 10) (by decide) rfl rfl rfl fl_Kn_46 d_Kn_learn_59 <| r_aload_n F d_Kn_learn_62 rfl <| r_getI F cg_Kn (j := 8) (by decide) rfl fl_Kn_43 d_Kn_learn_63 <| r_ireturn F hr hlk d_Kn_learn_66
theorem o_Kn_learn_9 {X : ra_X} {p : Program} {l : Launch} {e : Env} {s : State} {m : MethodId} {args : Array Value} {below : List Frame} {meth : Method} {c : Code} {Z : ra_R}  (F : ra_Fx X p rm_Kn_learn s m args c prog_5_method_2_code 4 cn_Kn) (hr : meth.sig.returnType = (some .int)) (hlk : meth.locks = false) : ra_At X p l e rm_Kn_learn s m args below meth c 4 (MQ below (ra_Qc X Z) args s 0 0 (ra_A X)) (b_Kn_learn_9 Z) 9 :=
  r_bipush F d_Kn_learn_9 (by decide) <| r_ireturn F hr hlk d_Kn_learn_11
theorem o_Kn_learn_0 {X : ra_X} {p : Program} {l : Launch} {e : Env} {s : State} {m : MethodId} {args : Array Value} {below : List Frame} {meth : Method} {c : Code} {Z : ra_R}  (F : ra_Fx X p rm_Kn_learn s m args c prog_5_method_2_code 4 cn_Kn) (hr : meth.sig.returnType = (some .int)) (hlk : meth.locks = false) : ra_At X p l e rm_Kn_learn s m args below meth c 4 (MQ below (ra_Qc X Z) args s 0 0 (ra_A X)) (b_Kn_learn_0 Z) 0 :=
  r_aload_n F d_Kn_learn_0 rfl <| r_getI F cg_Kn (j := 8) (by decide) rfl fl_Kn_43 d_Kn_learn_1 <| r_bipush F d_Kn_learn_4 (by decide) <| r_icmp_lt F d_Kn_learn_6 (by decide) (o_Kn_learn_12 F hr hlk) (o_Kn_learn_9 F hr hlk)
theorem g_Kn_learn {l : Launch} {X : ra_X}  (sp : ra_Sp) (ve : ∀ as σ Z, ra_c1 as = true → as.length = 4 → sp as σ Z → b_Kn_learn_0 Z (ra_pad 4 as) [] σ) : ra_MOK l X mi_Kn_learn sp := by
  refine ra_enter (k := fun Z as σ => b_Kn_learn_0 Z) cn_Kn rfl (by decide +kernel) ⟨by decide +kernel, by decide +kernel⟩ (by decide +kernel) ?_ ve
  intro p e s m args below meth c Z as σ hsp F hr hlk
  exact o_Kn_learn_0 F hr hlk

theorem d_R_fact_0 : decode prog_1_method_21_code 0 = .ok (.iload_n 1, 1) := by decide +kernel
theorem d_R_fact_1 : decode prog_1_method_21_code 1 = .ok (.invokestatic 179, 3) := by decide +kernel
theorem d_R_fact_4 : decode prog_1_method_21_code 4 = .ok (.ifCond .ne 19, 3) := by decide +kernel
theorem d_R_fact_7 : decode prog_1_method_21_code 7 = .ok (.iload_n 2, 1) := by decide +kernel
theorem d_R_fact_8 : decode prog_1_method_21_code 8 = .ok (.invokestatic 179, 3) := by decide +kernel
theorem d_R_fact_11 : decode prog_1_method_21_code 11 = .ok (.ifCond .ne 12, 3) := by decide +kernel
theorem d_R_fact_14 : decode prog_1_method_21_code 14 = .ok (.iload_n 3, 1) := by decide +kernel
theorem d_R_fact_15 : decode prog_1_method_21_code 15 = .ok (.iconst 0, 1) := by decide +kernel
theorem d_R_fact_16 : decode prog_1_method_21_code 16 = .ok (.iconst 1, 1) := by decide +kernel
theorem d_R_fact_17 : decode prog_1_method_21_code 17 = .ok (.invokestatic 73, 3) := by decide +kernel
theorem d_R_fact_20 : decode prog_1_method_21_code 20 = .ok (.ifCond .eq 6, 3) := by decide +kernel
theorem d_R_fact_23 : decode prog_1_method_21_code 23 = .ok (.bipush (-2), 2) := by decide +kernel
theorem d_R_fact_25 : decode prog_1_method_21_code 25 = .ok (.ireturn, 1) := by decide +kernel
theorem d_R_fact_26 : decode prog_1_method_21_code 26 = .ok (.aload_n 0, 1) := by decide +kernel
theorem d_R_fact_27 : decode prog_1_method_21_code 27 = .ok (.getfield 51, 3) := by decide +kernel
theorem d_R_fact_30 : decode prog_1_method_21_code 30 = .ok (.iload_n 1, 1) := by decide +kernel
theorem d_R_fact_31 : decode prog_1_method_21_code 31 = .ok (.iload_n 2, 1) := by decide +kernel
theorem d_R_fact_32 : decode prog_1_method_21_code 32 = .ok (.iload_n 3, 1) := by decide +kernel
theorem d_R_fact_33 : decode prog_1_method_21_code 33 = .ok (.invokevirtual 210, 3) := by decide +kernel
theorem d_R_fact_36 : decode prog_1_method_21_code 36 = .ok (.ireturn, 1) := by decide +kernel
def b_R_fact_26 (c0 c1 c2 : ra_Sp) (Z : ra_R) : ra_K := w_al 0 <| w_gr 0 5 <| w_il 1 <| w_il 2 <| w_il 3 <| w_cv c2 4 8 <| w_ir Z
def b_R_fact_23 (c0 c1 c2 : ra_Sp) (Z : ra_R) : ra_K := w_c (-2) <| w_ir Z
def b_R_fact_14 (c0 c1 c2 : ra_Sp) (Z : ra_R) : ra_K := w_il 3 <| w_c 0 <| w_c 1 <| w_cs c1 3 <| w_b1 (fun x => x = 0) (b_R_fact_26 c0 c1 c2 Z) (b_R_fact_23 c0 c1 c2 Z)
def b_R_fact_7 (c0 c1 c2 : ra_Sp) (Z : ra_R) : ra_K := w_il 2 <| w_cs c0 1 <| w_b1 (fun x => x = 0) (b_R_fact_14 c0 c1 c2 Z) (b_R_fact_23 c0 c1 c2 Z)
def b_R_fact_0 (c0 c1 c2 : ra_Sp) (Z : ra_R) : ra_K := w_il 1 <| w_cs c0 1 <| w_b1 (fun x => x = 0) (b_R_fact_7 c0 c1 c2 Z) (b_R_fact_23 c0 c1 c2 Z)
theorem o_R_fact_26 {X : ra_X} {p : Program} {l : Launch} {e : Env} {s : State} {m : MethodId} {args : Array Value} {below : List Frame} {meth : Method} {c : Code} {Z : ra_R} {c0 c1 c2 : ra_Sp}  (h0 : ra_MOK l X mi_R_isNoNumber c0) (h1 : ra_MOK l X mi_R_isOutside c1) (h2 : ra_MOK l X mi_Kn_learn c2) (F : ra_Fx X p rm_R_fact s m args c prog_1_method_21_code 4 cn_R) (hr : meth.sig.returnType = (some .int)) (hlk : meth.locks = false) : ra_At X p l e rm_R_fact s m args below meth c 4 (MQ below (ra_Qc X Z) args s 0 0 (ra_A X)) (b_R_fact_26 c0 c1 c2 Z) 26 :=
  r_aload_n F d_R_fact_26 rfl <| r_getR F cg_R (j := 5) (by decide) rfl fl_R_51 d_R_fact_27 <| r_iload_n F d_R_fact_30 rfl <| r_iload_n F d_R_fact_31 rfl <| r_iload_n F d_R_fact_32 rfl <| r_callV F h2 (co_Kn_learn (by decide +kernel) (by decide +kernel)) ⟨rfl, by decide +kernel⟩ ⟨rfl, by decide⟩ ml_R_210 im_Kn_learn se_Kn_learn d_R_fact_33 <| r_ireturn F hr hlk d_R_fact_36
theorem o_R_fact_23 {X : ra_X} {p : Program} {l : Launch} {e : Env} {s : State} {m : MethodId} {args : Array Value} {below : List Frame} {meth : Method} {c : Code} {Z : ra_R} {c0 c1 c2 : ra_Sp}  (h0 : ra_MOK l X mi_R_isNoNumber c0) (h1 : ra_MOK l X mi_R_isOutside c1) (h2 : ra_MOK l X mi_Kn_learn c2) (F : ra_Fx X p rm_R_fact s m args c prog_1_method_21_code 4 cn_R) (hr : meth.sig.returnType = (some .int)) (hlk : meth.locks = false) : ra_At X p l e rm_R_fact s m args below meth c 4 (MQ below (ra_Qc X Z) args s 0 0 (ra_A X)) (b_R_fact_23 c0 c1 c2 Z) 23 :=
  r_bipush F d_R_fact_23 (by decide) <| r_ireturn F hr hlk d_R_fact_25
theorem o_R_fact_14 {X : ra_X} {p : Program} {l : Launch} {e : Env} {s : State} {m : MethodId} {args : Array Value} {below : List Frame} {meth : Method} {c : Code} {Z : ra_R} {c0 c1 c2 : ra_Sp}  (h0 : ra_MOK l X mi_R_isNoNumber c0) (h1 : ra_MOK l X mi_R_isOutside c1) (h2 : ra_MOK l X mi_Kn_learn c2) (F : ra_Fx X p rm_R_fact s m args c prog_1_method_21_code 4 cn_R) (hr : meth.sig.returnType = (some .int)) (hlk : meth.locks = false) : ra_At X p l e rm_R_fact s m args below meth c 4 (MQ below (ra_Qc X Z) args s 0 0 (ra_A X)) (b_R_fact_14 c0 c1 c2 Z) 14 :=
  r_iload_n F d_R_fact_14 rfl <| r_iconst F d_R_fact_15 (by decide) <| r_iconst F d_R_fact_16 (by decide) <| r_callS F h1 (co_R_isOutside (by decide +kernel) (by decide +kernel)) ⟨rfl, by decide +kernel⟩ ml_R_73 st_R_isOutside d_R_fact_17 <| r_if_eq F d_R_fact_20 (by decide) (o_R_fact_26 h0 h1 h2 F hr hlk) (o_R_fact_23 h0 h1 h2 F hr hlk)
theorem o_R_fact_7 {X : ra_X} {p : Program} {l : Launch} {e : Env} {s : State} {m : MethodId} {args : Array Value} {below : List Frame} {meth : Method} {c : Code} {Z : ra_R} {c0 c1 c2 : ra_Sp}  (h0 : ra_MOK l X mi_R_isNoNumber c0) (h1 : ra_MOK l X mi_R_isOutside c1) (h2 : ra_MOK l X mi_Kn_learn c2) (F : ra_Fx X p rm_R_fact s m args c prog_1_method_21_code 4 cn_R) (hr : meth.sig.returnType = (some .int)) (hlk : meth.locks = false) : ra_At X p l e rm_R_fact s m args below meth c 4 (MQ below (ra_Qc X Z) args s 0 0 (ra_A X)) (b_R_fact_7 c0 c1 c2 Z) 7 :=
  r_iload_n F d_R_fact_7 rfl <| r_callS F h0 (co_R_isNoNumber (by decide +kernel) (by decide +kernel)) ⟨rfl, by decide +kernel⟩ ml_R_179 st_R_isNoNumber d_R_fact_8 <| r_if_ne F d_R_fact_11 (by decide) (o_R_fact_23 h0 h1 h2 F hr hlk) (o_R_fact_14 h0 h1 h2 F hr hlk)
theorem o_R_fact_0 {X : ra_X} {p : Program} {l : Launch} {e : Env} {s : State} {m : MethodId} {args : Array Value} {below : List Frame} {meth : Method} {c : Code} {Z : ra_R} {c0 c1 c2 : ra_Sp}  (h0 : ra_MOK l X mi_R_isNoNumber c0) (h1 : ra_MOK l X mi_R_isOutside c1) (h2 : ra_MOK l X mi_Kn_learn c2) (F : ra_Fx X p rm_R_fact s m args c prog_1_method_21_code 4 cn_R) (hr : meth.sig.returnType = (some .int)) (hlk : meth.locks = false) : ra_At X p l e rm_R_fact s m args below meth c 4 (MQ below (ra_Qc X Z) args s 0 0 (ra_A X)) (b_R_fact_0 c0 c1 c2 Z) 0 :=
  r_iload_n F d_R_fact_0 rfl <| r_callS F h0 (co_R_isNoNumber (by decide +kernel) (by decide +kernel)) ⟨rfl, by decide +kernel⟩ ml_R_179 st_R_isNoNumber d_R_fact_1 <| r_if_ne F d_R_fact_4 (by decide) (o_R_fact_23 h0 h1 h2 F hr hlk) (o_R_fact_7 h0 h1 h2 F hr hlk)
theorem g_R_fact {l : Launch} {X : ra_X} {c0 c1 c2 : ra_Sp}  (h0 : ra_MOK l X mi_R_isNoNumber c0) (h1 : ra_MOK l X mi_R_isOutside c1) (h2 : ra_MOK l X mi_Kn_learn c2) (sp : ra_Sp) (ve : ∀ as σ Z, ra_c1 as = true → as.length = 4 → sp as σ Z → b_R_fact_0 c0 c1 c2 Z (ra_pad 4 as) [] σ) : ra_MOK l X mi_R_fact sp := by
  refine ra_enter (k := fun Z as σ => b_R_fact_0 c0 c1 c2 Z) cn_R rfl (by decide +kernel) ⟨by decide +kernel, by decide +kernel⟩ (by decide +kernel) ?_ ve
  intro p e s m args below meth c Z as σ hsp F hr hlk
  exact o_R_fact_0 h0 h1 h2 F hr hlk

theorem d_Kn_clear_0 : decode prog_5_method_3_code 0 = .ok (.aload_n 0, 1) := by decide +kernel
theorem d_Kn_clear_1 : decode prog_5_method_3_code 1 = .ok (.getfield 43, 3) := by decide +kernel
theorem d_Kn_clear_4 : decode prog_5_method_3_code 4 = .ok (.istore_n 1, 1) := by decide +kernel
theorem d_Kn_clear_5 : decode prog_5_method_3_code 5 = .ok (.aload_n 0, 1) := by decide +kernel
theorem d_Kn_clear_6 : decode prog_5_method_3_code 6 = .ok (.iconst 0, 1) := by decide +kernel
theorem d_Kn_clear_7 : decode prog_5_method_3_code 7 = .ok (.putfield 43, 3) := by decide +kernel
theorem d_Kn_clear_10 : decode prog_5_method_3_code 10 = .ok (.aload_n 0, 1) := by decide +kernel
theorem d_Kn_clear_11 : decode prog_5_method_3_code 11 = .ok (.dup, 1) := by decide +kernel
theorem d_Kn_clear_12 : decode prog_5_method_3_code 12 = .ok (.getfield 46, 3) := by decide +kernel
theorem d_Kn_clear_15 : decode prog_5_method_3_code 15 = .ok (.iconst 1, 1) := by decide +kernel
theorem d_Kn_clear_16 : decode prog_5_method_3_code 16 = .ok (.iadd, 1) := by decide +kernel
theorem d_Kn_clear_17 : decode prog_5_method_3_code 17 = .ok (.putfield 46, 3) := by decide +kernel
theorem d_Kn_clear_20 : decode prog_5_method_3_code 20 = .ok (.iload_n 1, 1) := by decide +kernel
theorem d_Kn_clear_21 : decode prog_5_method_3_code 21 = .ok (.ireturn, 1) := by decide +kernel
def b_Kn_clear_0 (Z : ra_R) : ra_K := w_al 0 <| w_gi 8 8 <| w_is 1 <| w_al 0 <| w_c 0 <| w_pi 8 8 <| w_al 0 <| w_dup <| w_gi 8 10 <| w_c 1 <| w_i2 (fun x y => x + y) <| w_pi 8 10 <| w_il 1 <| w_ir Z
theorem o_Kn_clear_0 {X : ra_X} {p : Program} {l : Launch} {e : Env} {s : State} {m : MethodId} {args : Array Value} {below : List Frame} {meth : Method} {c : Code} {Z : ra_R}  (F : ra_Fx X p rm_Kn_clear s m args c prog_5_method_3_code 2 cn_Kn) (hr : meth.sig.returnType = (some .int)) (hlk : meth.locks = false) : ra_At X p l e rm_Kn_clear s m args below meth c 2 (MQ below (ra_Qc X Z) args s 0 0 (ra_A X)) (b_Kn_clear_0 Z) 0 :=
  r_aload_n F d_Kn_clear_0 rfl <| r_getI F cg_Kn (j := 8) (by decide) rfl fl_Kn_43 d_Kn_clear_1 <| r_istore_n F d_Kn_clear_4 rfl (by decide) <| r_aload_n F d_Kn_clear_5 rfl <| r_iconst F d_Kn_clear_6 (by decide) <| r_putI F cg_Kn (j := 8) (by decide) rfl rfl rfl fl_Kn_43 d_Kn_clear_7 <| r_aload_n F d_Kn_clear_10 rfl <| r_dup F d_Kn_clear_11 <| r_getI F cg_Kn (j := 10) (by decide) rfl fl_Kn_46 d_Kn_clear_12 <| r_iconst F d_Kn_clear_15 (by decide) <| r_iadd F d_Kn_clear_16 <| r_putI F cg_Kn (j := 10) (by decide) rfl rfl rfl fl_Kn_46 d_Kn_clear_17 <| r_iload_n F d_Kn_clear_20 rfl <| r_ireturn F hr hlk d_Kn_clear_21
theorem g_Kn_clear {l : Launch} {X : ra_X}  (sp : ra_Sp) (ve : ∀ as σ Z, ra_c1 as = true → as.length = 1 → sp as σ Z → b_Kn_clear_0 Z (ra_pad 2 as) [] σ) : ra_MOK l X mi_Kn_clear sp := by
  refine ra_enter (k := fun Z as σ => b_Kn_clear_0 Z) cn_Kn rfl (by decide +kernel) ⟨by decide +kernel, by decide +kernel⟩ (by decide +kernel) ?_ ve
  intro p e s m args below meth c Z as σ hsp F hr hlk
  exact o_Kn_clear_0 F hr hlk

theorem d_R_forget_0 : decode prog_1_method_22_code 0 = .ok (.aload_n 0, 1) := by decide +kernel
theorem d_R_forget_1 : decode prog_1_method_22_code 1 = .ok (.getfield 51, 3) := by decide +kernel
theorem d_R_forget_4 : decode prog_1_method_22_code 4 = .ok (.invokevirtual 213, 3) := by decide +kernel
theorem d_R_forget_7 : decode prog_1_method_22_code 7 = .ok (.ireturn, 1) := by decide +kernel
def b_R_forget_0 (c0 : ra_Sp) (Z : ra_R) : ra_K := w_al 0 <| w_gr 0 5 <| w_cv c0 1 8 <| w_ir Z
theorem o_R_forget_0 {X : ra_X} {p : Program} {l : Launch} {e : Env} {s : State} {m : MethodId} {args : Array Value} {below : List Frame} {meth : Method} {c : Code} {Z : ra_R} {c0 : ra_Sp}  (h0 : ra_MOK l X mi_Kn_clear c0) (F : ra_Fx X p rm_R_forget s m args c prog_1_method_22_code 1 cn_R) (hr : meth.sig.returnType = (some .int)) (hlk : meth.locks = false) : ra_At X p l e rm_R_forget s m args below meth c 1 (MQ below (ra_Qc X Z) args s 0 0 (ra_A X)) (b_R_forget_0 c0 Z) 0 :=
  r_aload_n F d_R_forget_0 rfl <| r_getR F cg_R (j := 5) (by decide) rfl fl_R_51 d_R_forget_1 <| r_callV F h0 (co_Kn_clear (by decide +kernel) (by decide +kernel)) ⟨rfl, by decide +kernel⟩ ⟨rfl, by decide⟩ ml_R_213 im_Kn_clear se_Kn_clear d_R_forget_4 <| r_ireturn F hr hlk d_R_forget_7
theorem g_R_forget {l : Launch} {X : ra_X} {c0 : ra_Sp}  (h0 : ra_MOK l X mi_Kn_clear c0) (sp : ra_Sp) (ve : ∀ as σ Z, ra_c1 as = true → as.length = 1 → sp as σ Z → b_R_forget_0 c0 Z (ra_pad 1 as) [] σ) : ra_MOK l X mi_R_forget sp := by
  refine ra_enter (k := fun Z as σ => b_R_forget_0 c0 Z) cn_R rfl (by decide +kernel) ⟨by decide +kernel, by decide +kernel⟩ (by decide +kernel) ?_ ve
  intro p e s m args below meth c Z as σ hsp F hr hlk
  exact o_R_forget_0 h0 F hr hlk

theorem d_Kn_readFacts_0 : decode prog_5_method_5_code 0 = .ok (.iconst 1, 1) := by decide +kernel
theorem d_Kn_readFacts_1 : decode prog_5_method_5_code 1 = .ok (.istore_n 2, 1) := by decide +kernel
theorem d_Kn_readFacts_2 : decode prog_5_method_5_code 2 = .ok (.iconst 0, 1) := by decide +kernel
theorem d_Kn_readFacts_3 : decode prog_5_method_5_code 3 = .ok (.istore_n 3, 1) := by decide +kernel
theorem d_Kn_readFacts_4 : decode prog_5_method_5_code 4 = .ok (.iload_n 3, 1) := by decide +kernel
theorem d_Kn_readFacts_5 : decode prog_5_method_5_code 5 = .ok (.aload_n 0, 1) := by decide +kernel
theorem d_Kn_readFacts_6 : decode prog_5_method_5_code 6 = .ok (.getfield 39, 3) := by decide +kernel
theorem d_Kn_readFacts_9 : decode prog_5_method_5_code 9 = .ok (.getfield 52, 3) := by decide +kernel
theorem d_Kn_readFacts_12 : decode prog_5_method_5_code 12 = .ok (.if_icmp .ge 16, 3) := by decide +kernel
theorem d_Kn_readFacts_15 : decode prog_5_method_5_code 15 = .ok (.aload_n 0, 1) := by decide +kernel
theorem d_Kn_readFacts_16 : decode prog_5_method_5_code 16 = .ok (.getfield 21, 3) := by decide +kernel
theorem d_Kn_readFacts_19 : decode prog_5_method_5_code 19 = .ok (.iload_n 3, 1) := by decide +kernel
theorem d_Kn_readFacts_20 : decode prog_5_method_5_code 20 = .ok (.iload_n 1, 1) := by decide +kernel
theorem d_Kn_readFacts_21 : decode prog_5_method_5_code 21 = .ok (.iastore, 1) := by decide +kernel
theorem d_Kn_readFacts_22 : decode prog_5_method_5_code 22 = .ok (.iinc 3 1, 3) := by decide +kernel
theorem d_Kn_readFacts_25 : decode prog_5_method_5_code 25 = .ok (.goto (-21), 3) := by decide +kernel
theorem d_Kn_readFacts_28 : decode prog_5_method_5_code 28 = .ok (.iconst 0, 1) := by decide +kernel
theorem d_Kn_readFacts_29 : decode prog_5_method_5_code 29 = .ok (.istore_n 3, 1) := by decide +kernel
theorem d_Kn_readFacts_30 : decode prog_5_method_5_code 30 = .ok (.iload_n 3, 1) := by decide +kernel
theorem d_Kn_readFacts_31 : decode prog_5_method_5_code 31 = .ok (.aload_n 0, 1) := by decide +kernel
theorem d_Kn_readFacts_32 : decode prog_5_method_5_code 32 = .ok (.getfield 43, 3) := by decide +kernel
theorem d_Kn_readFacts_35 : decode prog_5_method_5_code 35 = .ok (.if_icmp .ge 111, 3) := by decide +kernel
theorem d_Kn_readFacts_38 : decode prog_5_method_5_code 38 = .ok (.aload_n 0, 1) := by decide +kernel
theorem d_Kn_readFacts_39 : decode prog_5_method_5_code 39 = .ok (.getfield 9, 3) := by decide +kernel
theorem d_Kn_readFacts_42 : decode prog_5_method_5_code 42 = .ok (.iload_n 3, 1) := by decide +kernel
theorem d_Kn_readFacts_43 : decode prog_5_method_5_code 43 = .ok (.iaload, 1) := by decide +kernel
theorem d_Kn_readFacts_44 : decode prog_5_method_5_code 44 = .ok (.aload_n 0, 1) := by decide +kernel
theorem d_Kn_readFacts_45 : decode prog_5_method_5_code 45 = .ok (.getfield 39, 3) := by decide +kernel
theorem d_Kn_readFacts_48 : decode prog_5_method_5_code 48 = .ok (.getfield 52, 3) := by decide +kernel
theorem d_Kn_readFacts_51 : decode prog_5_method_5_code 51 = .ok (.if_icmp .ge 23, 3) := by decide +kernel
theorem d_Kn_readFacts_54 : decode prog_5_method_5_code 54 = .ok (.aload_n 0, 1) := by decide +kernel
theorem d_Kn_readFacts_55 : decode prog_5_method_5_code 55 = .ok (.getfield 15, 3) := by decide +kernel
theorem d_Kn_readFacts_58 : decode prog_5_method_5_code 58 = .ok (.iload_n 3, 1) := by decide +kernel
theorem d_Kn_readFacts_59 : decode prog_5_method_5_code 59 = .ok (.iaload, 1) := by decide +kernel
theorem d_Kn_readFacts_60 : decode prog_5_method_5_code 60 = .ok (.aload_n 0, 1) := by decide +kernel
theorem d_Kn_readFacts_61 : decode prog_5_method_5_code 61 = .ok (.getfield 39, 3) := by decide +kernel
theorem d_Kn_readFacts_64 : decode prog_5_method_5_code 64 = .ok (.getfield 52, 3) := by decide +kernel
theorem d_Kn_readFacts_67 : decode prog_5_method_5_code 67 = .ok (.if_icmp .ge 7, 3) := by decide +kernel
theorem d_Kn_readFacts_70 : decode prog_5_method_5_code 70 = .ok (.iconst 1, 1) := by decide +kernel
theorem d_Kn_readFacts_71 : decode prog_5_method_5_code 71 = .ok (.goto 4, 3) := by decide +kernel
theorem d_Kn_readFacts_74 : decode prog_5_method_5_code 74 = .ok (.iconst 0, 1) := by decide +kernel
theorem d_Kn_readFacts_75 : decode prog_5_method_5_code 75 = .ok (.istore 4, 2) := by decide +kernel
theorem d_Kn_readFacts_77 : decode prog_5_method_5_code 77 = .ok (.iconst 1, 1) := by decide +kernel
theorem d_Kn_readFacts_78 : decode prog_5_method_5_code 78 = .ok (.aload_n 0, 1) := by decide +kernel
theorem d_Kn_readFacts_79 : decode prog_5_method_5_code 79 = .ok (.getfield 15, 3) := by decide +kernel
theorem d_Kn_readFacts_82 : decode prog_5_method_5_code 82 = .ok (.iload_n 3, 1) := by decide +kernel
theorem d_Kn_readFacts_83 : decode prog_5_method_5_code 83 = .ok (.iaload, 1) := by decide +kernel
theorem d_Kn_readFacts_84 : decode prog_5_method_5_code 84 = .ok (.ishl, 1) := by decide +kernel
theorem d_Kn_readFacts_85 : decode prog_5_method_5_code 85 = .ok (.istore 5, 2) := by decide +kernel
theorem d_Kn_readFacts_87 : decode prog_5_method_5_code 87 = .ok (.iload 4, 2) := by decide +kernel
theorem d_Kn_readFacts_89 : decode prog_5_method_5_code 89 = .ok (.ifCond .eq 39, 3) := by decide +kernel
theorem d_Kn_readFacts_92 : decode prog_5_method_5_code 92 = .ok (.aload_n 0, 1) := by decide +kernel
theorem d_Kn_readFacts_93 : decode prog_5_method_5_code 93 = .ok (.getfield 21, 3) := by decide +kernel
theorem d_Kn_readFacts_96 : decode prog_5_method_5_code 96 = .ok (.aload_n 0, 1) := by decide +kernel
theorem d_Kn_readFacts_97 : decode prog_5_method_5_code 97 = .ok (.getfield 9, 3) := by decide +kernel
theorem d_Kn_readFacts_100 : decode prog_5_method_5_code 100 = .ok (.iload_n 3, 1) := by decide +kernel
theorem d_Kn_readFacts_101 : decode prog_5_method_5_code 101 = .ok (.iaload, 1) := by decide +kernel
theorem d_Kn_readFacts_102 : decode prog_5_method_5_code 102 = .ok (.dup2, 1) := by decide +kernel
theorem d_Kn_readFacts_103 : decode prog_5_method_5_code 103 = .ok (.iaload, 1) := by decide +kernel
theorem d_Kn_readFacts_104 : decode prog_5_method_5_code 104 = .ok (.aload_n 0, 1) := by decide +kernel
theorem d_Kn_readFacts_105 : decode prog_5_method_5_code 105 = .ok (.getfield 18, 3) := by decide +kernel
theorem d_Kn_readFacts_108 : decode prog_5_method_5_code 108 = .ok (.iload_n 3, 1) := by decide +kernel
theorem d_Kn_readFacts_109 : decode prog_5_method_5_code 109 = .ok (.iaload, 1) := by decide +kernel
theorem d_Kn_readFacts_110 : decode prog_5_method_5_code 110 = .ok (.iconst 1, 1) := by decide +kernel
theorem d_Kn_readFacts_111 : decode prog_5_method_5_code 111 = .ok (.if_icmp .ne 8, 3) := by decide +kernel
theorem d_Kn_readFacts_114 : decode prog_5_method_5_code 114 = .ok (.iload 5, 2) := by decide +kernel
theorem d_Kn_readFacts_116 : decode prog_5_method_5_code 116 = .ok (.goto 7, 3) := by decide +kernel
theorem d_Kn_readFacts_119 : decode prog_5_method_5_code 119 = .ok (.iload 5, 2) := by decide +kernel
theorem d_Kn_readFacts_121 : decode prog_5_method_5_code 121 = .ok (.iconst (-1), 1) := by decide +kernel
theorem d_Kn_readFacts_122 : decode prog_5_method_5_code 122 = .ok (.ixor, 1) := by decide +kernel
theorem d_Kn_readFacts_123 : decode prog_5_method_5_code 123 = .ok (.iand, 1) := by decide +kernel
theorem d_Kn_readFacts_124 : decode prog_5_method_5_code 124 = .ok (.iastore, 1) := by decide +kernel
theorem d_Kn_readFacts_125 : decode prog_5_method_5_code 125 = .ok (.goto 15, 3) := by decide +kernel
theorem d_Kn_readFacts_128 : decode prog_5_method_5_code 128 = .ok (.aload_n 0, 1) := by decide +kernel
theorem d_Kn_readFacts_129 : decode prog_5_method_5_code 129 = .ok (.getfield 18, 3) := by decide +kernel
theorem d_Kn_readFacts_132 : decode prog_5_method_5_code 132 = .ok (.iload_n 3, 1) := by decide +kernel
theorem d_Kn_readFacts_133 : decode prog_5_method_5_code 133 = .ok (.iaload, 1) := by decide +kernel
theorem d_Kn_readFacts_134 : decode prog_5_method_5_code 134 = .ok (.iconst 1, 1) := by decide +kernel
theorem d_Kn_readFacts_135 : decode prog_5_method_5_code 135 = .ok (.if_icmp .ne 5, 3) := by decide +kernel
theorem d_Kn_readFacts_138 : decode prog_5_method_5_code 138 = .ok (.iconst 0, 1) := by decide +kernel
theorem d_Kn_readFacts_139 : decode prog_5_method_5_code 139 = .ok (.istore_n 2, 1) := by decide +kernel
theorem d_Kn_readFacts_140 : decode prog_5_method_5_code 140 = .ok (.iinc 3 1, 3) := by decide +kernel
theorem d_Kn_readFacts_143 : decode prog_5_method_5_code 143 = .ok (.goto (-113), 3) := by decide +kernel
theorem d_Kn_readFacts_146 : decode prog_5_method_5_code 146 = .ok (.iconst 0, 1) := by decide +kernel
theorem d_Kn_readFacts_147 : decode prog_5_method_5_code 147 = .ok (.istore_n 3, 1) := by decide +kernel
theorem d_Kn_readFacts_148 : decode prog_5_method_5_code 148 = .ok (.iload_n 3, 1) := by decide +kernel
theorem d_Kn_readFacts_149 : decode prog_5_method_5_code 149 = .ok (.aload_n 0, 1) := by decide +kernel
theorem d_Kn_readFacts_150 : decode prog_5_method_5_code 150 = .ok (.getfield 39, 3) := by decide +kernel
theorem d_Kn_readFacts_153 : decode prog_5_method_5_code 153 = .ok (.getfield 52, 3) := by decide +kernel
theorem d_Kn_readFacts_156 : decode prog_5_method_5_code 156 = .ok (.if_icmp .ge 29, 3) := by decide +kernel
theorem d_Kn_readFacts_159 : decode prog_5_method_5_code 159 = .ok (.aload_n 0, 1) := by decide +kernel
theorem d_Kn_readFacts_160 : decode prog_5_method_5_code 160 = .ok (.getfield 21, 3) := by decide +kernel
theorem d_Kn_readFacts_163 : decode prog_5_method_5_code 163 = .ok (.iload_n 3, 1) := by decide +kernel
theorem d_Kn_readFacts_164 : decode prog_5_method_5_code 164 = .ok (.iload_n 2, 1) := by decide +kernel
theorem d_Kn_readFacts_165 : decode prog_5_method_5_code 165 = .ok (.ifCond .eq 12, 3) := by decide +kernel
theorem d_Kn_readFacts_168 : decode prog_5_method_5_code 168 = .ok (.aload_n 0, 1) := by decide +kernel
theorem d_Kn_readFacts_169 : decode prog_5_method_5_code 169 = .ok (.getfield 21, 3) := by decide +kernel
theorem d_Kn_readFacts_172 : decode prog_5_method_5_code 172 = .ok (.iload_n 3, 1) := by decide +kernel
theorem d_Kn_readFacts_173 : decode prog_5_method_5_code 173 = .ok (.iaload, 1) := by decide +kernel
theorem d_Kn_readFacts_174 : decode prog_5_method_5_code 174 = .ok (.goto 4, 3) := by decide +kernel
theorem d_Kn_readFacts_177 : decode prog_5_method_5_code 177 = .ok (.iconst 0, 1) := by decide +kernel
theorem d_Kn_readFacts_178 : decode prog_5_method_5_code 178 = .ok (.iastore, 1) := by decide +kernel
theorem d_Kn_readFacts_179 : decode prog_5_method_5_code 179 = .ok (.iinc 3 1, 3) := by decide +kernel
theorem d_Kn_readFacts_182 : decode prog_5_method_5_code 182 = .ok (.goto (-34), 3) := by decide +kernel
theorem d_Kn_readFacts_185 : decode prog_5_method_5_code 185 = .ok (.iload_n 2, 1) := by decide +kernel
theorem d_Kn_readFacts_186 : decode prog_5_method_5_code 186 = .ok (.ireturn, 1) := by decide +kernel
def b_Kn_readFacts_185 (I : Nat → ra_K) (Z : ra_R) : ra_K := w_il 2 <| w_zr Z
def b_Kn_readFacts_178 (I : Nat → ra_K) (Z : ra_R) : ra_K := w_ast <| w_inc 3 1 <| (I 148)
def b_Kn_readFacts_177 (I : Nat → ra_K) (Z : ra_R) : ra_K := w_c 0 <| (b_Kn_readFacts_178 I Z)
def b_Kn_readFacts_168 (I : Nat → ra_K) (Z : ra_R) : ra_K := w_al 0 <| w_gr 8 4 <| w_il 3 <| w_ald <| (b_Kn_readFacts_178 I Z)
def b_Kn_readFacts_159 (I : Nat → ra_K) (Z : ra_R) : ra_K := w_al 0 <| w_gr 8 4 <| w_il 3 <| w_il 2 <| w_b1 (fun x => x = 0) (b_Kn_readFacts_177 I Z) (b_Kn_readFacts_168 I Z)
def b_Kn_readFacts_148 (I : Nat → ra_K) (Z : ra_R) : ra_K := w_il 3 <| w_al 0 <| w_gr 8 0 <| w_gi 1 8 <| w_b2 (fun x y => y ≤ x) (b_Kn_readFacts_185 I Z) (b_Kn_readFacts_159 I Z)
def b_Kn_readFacts_146 (I : Nat → ra_K) (Z : ra_R) : ra_K := w_c 0 <| w_is 3 <| (I 148)
def b_Kn_readFacts_140 (I : Nat → ra_K) (Z : ra_R) : ra_K := w_inc 3 1 <| (I 30)
def b_Kn_readFacts_138 (I : Nat → ra_K) (Z : ra_R) : ra_K := w_c 0 <| w_is 2 <| (b_Kn_readFacts_140 I Z)
def b_Kn_readFacts_128 (I : Nat → ra_K) (Z : ra_R) : ra_K := w_al 0 <| w_gr 8 3 <| w_il 3 <| w_ald <| w_c 1 <| w_b2 (fun x y => x = y) (b_Kn_readFacts_138 I Z) (b_Kn_readFacts_140 I Z)
def b_Kn_readFacts_123 (I : Nat → ra_K) (Z : ra_R) : ra_K := w_i2 (fun x y => x &&& y) <| w_ast <| (b_Kn_readFacts_140 I Z)
def b_Kn_readFacts_119 (I : Nat → ra_K) (Z : ra_R) : ra_K := w_il 5 <| w_c (-1) <| w_i2 (fun x y => x ^^^ y) <| (b_Kn_readFacts_123 I Z)
def b_Kn_readFacts_114 (I : Nat → ra_K) (Z : ra_R) : ra_K := w_il 5 <| (b_Kn_readFacts_123 I Z)
def b_Kn_readFacts_92 (I : Nat → ra_K) (Z : ra_R) : ra_K := w_al 0 <| w_gr 8 4 <| w_al 0 <| w_gr 8 1 <| w_il 3 <| w_ald <| w_dup2 <| w_ald <| w_al 0 <| w_gr 8 3 <| w_il 3 <| w_ald <| w_c 1 <| w_b2 (fun x y => x = y) (b_Kn_readFacts_114 I Z) (b_Kn_readFacts_119 I Z)
def b_Kn_readFacts_75 (I : Nat → ra_K) (Z : ra_R) : ra_K := w_is 4 <| w_c 1 <| w_al 0 <| w_gr 8 2 <| w_il 3 <| w_ald <| w_i2 (fun x y => x <<< (y &&& 31)) <| w_is 5 <| w_il 4 <| w_b1 (fun x => x = 0) (b_Kn_readFacts_128 I Z) (b_Kn_readFacts_92 I Z)
def b_Kn_readFacts_74 (I : Nat → ra_K) (Z : ra_R) : ra_K := w_c 0 <| (b_Kn_readFacts_75 I Z)
def b_Kn_readFacts_70 (I : Nat → ra_K) (Z : ra_R) : ra_K := w_c 1 <| (b_Kn_readFacts_75 I Z)
def b_Kn_readFacts_54 (I : Nat → ra_K) (Z : ra_R) : ra_K := w_al 0 <| w_gr 8 2 <| w_il 3 <| w_ald <| w_al 0 <| w_gr 8 0 <| w_gi 1 8 <| w_b2 (fun x y => y ≤ x) (b_Kn_readFacts_74 I Z) (b_Kn_readFacts_70 I Z)
def b_Kn_readFacts_38 (I : Nat → ra_K) (Z : ra_R) : ra_K := w_al 0 <| w_gr 8 1 <| w_il 3 <| w_ald <| w_al 0 <| w_gr 8 0 <| w_gi 1 8 <| w_b2 (fun x y => y ≤ x) (b_Kn_readFacts_74 I Z) (b_Kn_readFacts_54 I Z)
def b_Kn_readFacts_30 (I : Nat → ra_K) (Z : ra_R) : ra_K := w_il 3 <| w_al 0 <| w_gi 8 8 <| w_b2 (fun x y => y ≤ x) (b_Kn_readFacts_146 I Z) (b_Kn_readFacts_38 I Z)
def b_Kn_readFacts_28 (I : Nat → ra_K) (Z : ra_R) : ra_K := w_c 0 <| w_is 3 <| (I 30)
def b_Kn_readFacts_15 (I : Nat → ra_K) (Z : ra_R) : ra_K := w_al 0 <| w_gr 8 4 <| w_il 3 <| w_il 1 <| w_ast <| w_inc 3 1 <| (I 4)
def b_Kn_readFacts_4 (I : Nat → ra_K) (Z : ra_R) : ra_K := w_il 3 <| w_al 0 <| w_gr 8 0 <| w_gi 1 8 <| w_b2 (fun x y => y ≤ x) (b_Kn_readFacts_28 I Z) (b_Kn_readFacts_15 I Z)
def b_Kn_readFacts_0 (I : Nat → ra_K) (Z : ra_R) : ra_K := w_c 1 <| w_is 2 <| w_c 0 <| w_is 3 <| (I 4)
theorem o_Kn_readFacts_185 {X : ra_X} {p : Program} {l : Launch} {e : Env} {s : State} {m : MethodId} {args : Array Value} {below : List Frame} {meth : Method} {c : Code} {Z : ra_R}  (F : ra_Fx X p rm_Kn_readFacts s m args c prog_5_method_5_code 6 cn_Kn) (hr : meth.sig.returnType = (some .boolean)) (hlk : meth.locks = false) {I : Nat → ra_K} (hI : ∀ t ∈ [4, 30, 148], ra_At X p l e rm_Kn_readFacts s m args below meth c 6 (MQ below (ra_Qc X Z) args s 0 0 (ra_A X)) (I t) t) : ra_At X p l e rm_Kn_readFacts s m args below meth c 6 (MQ below (ra_Qc X Z) args s 0 0 (ra_A X)) (b_Kn_readFacts_185 I Z) 185 :=
  r_iload_n F d_Kn_readFacts_185 rfl <| r_zreturn F hr hlk d_Kn_readFacts_186
theorem o_Kn_readFacts_178 {X : ra_X} {p : Program} {l : Launch} {e : Env} {s : State} {m : MethodId} {args : Array Value} {below : List Frame} {meth : Method} {c : Code} {Z : ra_R}  (F : ra_Fx X p rm_Kn_readFacts s m args c prog_5_method_5_code 6 cn_Kn) (hr : meth.sig.returnType = (some .boolean)) (hlk : meth.locks = false) {I : Nat → ra_K} (hI : ∀ t ∈ [4, 30, 148], ra_At X p l e rm_Kn_readFacts s m args below meth c 6 (MQ below (ra_Qc X Z) args s 0 0 (ra_A X)) (I t) t) : ra_At X p l e rm_Kn_readFacts s m args below meth c 6 (MQ below (ra_Qc X Z) args s 0 0 (ra_A X)) (b_Kn_readFacts_178 I Z) 178 :=
  r_iastore F d_Kn_readFacts_178 <| r_iinc F d_Kn_readFacts_179 (by decide) (by decide) <| r_goto F d_Kn_readFacts_182 (by decide) (hI 148 (by decide))
theorem o_Kn_readFacts_177 {X : ra_X} {p : Program} {l : Launch} {e : Env} {s : State} {m : MethodId} {args : Array Value} {below : List Frame} {meth : Method} {c : Code} {Z : ra_R}  (F : ra_Fx X p rm_Kn_readFacts s m args c prog_5_method_5_code 6 cn_Kn) (hr : meth.sig.returnType = (some .boolean)) (hlk : meth.locks = false) {I : Nat → ra_K} (hI : ∀ t ∈ [4, 30, 148], ra_At X p l e rm_Kn_readFacts s m args below meth c 6 (MQ below (ra_Qc X Z) args s 0 0 (ra_A X)) (I t) t) : ra_At X p l e rm_Kn_readFacts s m args below meth c 6 (MQ below (ra_Qc X Z) args s 0 0 (ra_A X)) (b_Kn_readFacts_177 I Z) 177 :=
  r_iconst F d_Kn_readFacts_177 (by decide) <| (o_Kn_readFacts_178 F hr hlk hI)
theorem o_Kn_readFacts_168 {X : ra_X} {p : Program} {l : Launch} {e : Env} {s : State} {m : MethodId} {args : Array Value} {below : List Frame} {meth : Method} {c : Code} {Z : ra_R}  (F : ra_Fx X p rm_Kn_readFacts s m args c prog_5_method_5_code 6 cn_Kn) (hr : meth.sig.returnType = (some .boolean)) (hlk : meth.locks = false) {I : Nat → ra_K} (hI : ∀ t ∈ [4, 30, 148], ra_At X p l e rm_Kn_readFacts s m args below meth c 6 (MQ below (ra_Qc X Z) args s 0 0 (ra_A X)) (I t) t) : ra_At X p l e rm_Kn_readFacts s m args below meth c 6 (MQ below (ra_Qc X Z) args s 0 0 (ra_A X)) (b_Kn_readFacts_168 I Z) 168 :=
  r_aload_n F d_Kn_readFacts_168 rfl <| r_getR F cg_Kn (j := 4) (by decide) rfl fl_Kn_21 d_Kn_readFacts_169 <| r_iload_n F d_Kn_readFacts_172 rfl <| r_iaload F d_Kn_readFacts_173 <| r_goto F d_Kn_readFacts_174 (by decide) (o_Kn_readFacts_178 F hr hlk hI)
theorem o_Kn_readFacts_159 {X : ra_X} {p : Program} {l : Launch} {e : Env} {s : State} {m : MethodId} {args : Array Value} {below : List Frame} {meth : Method} {c : Code} {Z : ra_R}  (F : ra_Fx X p rm_Kn_readFacts s m args c prog_5_method_5_code 6 cn_Kn) (hr : meth.sig.returnType = (some .boolean)) (hlk : meth.locks = false) {I : Nat → ra_K} (hI : ∀ t ∈ [4, 30, 148], ra_At X p l e rm_Kn_readFacts s m args below meth c 6 (MQ below (ra_Qc X Z) args s 0 0 (ra_A X)) (I t) t) : ra_At X p l e rm_Kn_readFacts s m args below meth c 6 (MQ below (ra_Qc X Z) args s 0 0 (ra_A X)) (b_Kn_readFacts_159 I Z) 159 :=
  r_aload_n F d_Kn_readFacts_159 rfl <| r_getR F cg_Kn (j := 4) (by decide) rfl fl_Kn_21 d_Kn_readFacts_160 <| r_iload_n F d_Kn_readFacts_163 rfl <| r_iload_n F d_Kn_readFacts_164 rfl <| r_if_eq F d_Kn_readFacts_165 (by decide) (o_Kn_readFacts_177 F hr hlk hI) (o_Kn_readFacts_168 F hr hlk hI)
theorem o_Kn_readFacts_148 {X : ra_X} {p : Program} {l : Launch} {e : Env} {s : State} {m : MethodId} {args : Array Value} {below : List Frame} {meth : Method} {c : Code} {Z : ra_R}  (F : ra_Fx X p rm_Kn_readFacts s m args c prog_5_method_5_code 6 cn_Kn) (hr : meth.sig.returnType = (some .boolean)) (hlk : meth.locks = false) {I : Nat → ra_K} (hI : ∀ t ∈ [4, 30, 148], ra_At X p l e rm_Kn_readFacts s m args below meth c 6 (MQ below (ra_Qc X Z) args s 0 0 (ra_A X)) (I t) t) : ra_At X p l e rm_Kn_readFacts s m args below meth c 6 (MQ below (ra_Qc X Z) args s 0 0 (ra_A X)) (b_Kn_readFacts_148 I Z) 148 :=
  r_iload_n F d_Kn_readFacts_148 rfl <| r_aload_n F d_Kn_readFacts_149 rfl <| r_getR F cg_Kn (j := 0) (by decide) rfl fl_Kn_39 d_Kn_readFacts_150 <| r_getI F cg_V (j := 8) (by decide) rfl fl_Kn_52 d_Kn_readFacts_153 <| r_icmp_ge F d_Kn_readFacts_156 (by decide) (o_Kn_readFacts_185 F hr hlk hI) (o_Kn_readFacts_159 F hr hlk hI)
theorem o_Kn_readFacts_146 {X : ra_X} {p : Program} {l : Launch} {e : Env} {s : State} {m : MethodId} {args : Array Value} {below : List Frame} {meth : Method} {c : Code} {Z : ra_R}  (F : ra_Fx X p rm_Kn_readFacts s m args c prog_5_method_5_code 6 cn_Kn) (hr : meth.sig.returnType = (some .boolean)) (hlk : meth.locks = false) {I : Nat → ra_K} (hI : ∀ t ∈ [4, 30, 148], ra_At X p l e rm_Kn_readFacts s m args below meth c 6 (MQ below (ra_Qc X Z) args s 0 0 (ra_A X)) (I t) t) : ra_At X p l e rm_Kn_readFacts s m args below meth c 6 (MQ below (ra_Qc X Z) args s 0 0 (ra_A X)) (b_Kn_readFacts_146 I Z) 146 :=
  r_iconst F d_Kn_readFacts_146 (by decide) <| r_istore_n F d_Kn_readFacts_147 rfl (by decide) <| (hI 148 (by decide))
theorem o_Kn_readFacts_140 {X : ra_X} {p : Program} {l : Launch} {e : Env} {s : State} {m : MethodId} {args : Array Value} {below : List Frame} {meth : Method} {c : Code} {Z : ra_R}  (F : ra_Fx X p rm_Kn_readFacts s m args c prog_5_method_5_code 6 cn_Kn) (hr : meth.sig.returnType = (some .boolean)) (hlk : meth.locks = false) {I : Nat → ra_K} (hI : ∀ t ∈ [4, 30, 148], ra_At X p l e rm_Kn_readFacts s m args below meth c 6 (MQ below (ra_Qc X Z) args s 0 0 (ra_A X)) (I t) t) : ra_At X p l e rm_Kn_readFacts s m args below meth c 6 (MQ below (ra_Qc X Z) args s 0 0 (ra_A X)) (b_Kn_readFacts_140 I Z) 140 :=
  r_iinc F d_Kn_readFacts_140 (by decide) (by decide) <| r_goto F d_Kn_readFacts_143 (by decide) (hI 30 (by decide))
theorem o_Kn_readFacts_138 {X : ra_X} {p : Program} {l : Launch} {e : Env} {s : State} {m : MethodId} {args : Array Value} {below : List Frame} {meth : Method} {c : Code} {Z : ra_R}  (F : ra_Fx X p rm_Kn_readFacts s m args c prog_5_method_5_code 6 cn_Kn) (hr : meth.sig.returnType = (some .boolean)) (hlk : meth.locks = false) {I : Nat → ra_K} (hI : ∀ t ∈ [4, 30, 148], ra_At X p l e rm_Kn_readFacts s m args below meth c 6 (MQ below (ra_Qc X Z) args s 0 0 (ra_A X)) (I t) t) : ra_At X p l e rm_Kn_readFacts s m args below meth c 6 (MQ below (ra_Qc X Z) args s 0 0 (ra_A X)) (b_Kn_readFacts_138 I Z) 138 :=
  r_iconst F d_Kn_readFacts_138 (by decide) <| r_istore_n F d_Kn_readFacts_139 rfl (by decide) <| (o_Kn_readFacts_140 F hr hlk hI)
theorem o_Kn_readFacts_128 {X : ra_X} {p : Program} {l : Launch} {e : Env} {s : State} {m : MethodId} {args : Array Value} {below : List Frame} {meth : Method} {c : Code} {Z : ra_R}  (F : ra_Fx X p rm_Kn_readFacts s m args c prog_5_method_5_code 6 cn_Kn) (hr : meth.sig.returnType = (some .boolean)) (hlk : meth.locks = false) {I : Nat → ra_K} (hI : ∀ t ∈ [4, 30, 148], ra_At X p l e rm_Kn_readFacts s m args below meth c 6 (MQ below (ra_Qc X Z) args s 0 0 (ra_A X)) (I t) t) : ra_At X p l e rm_Kn_readFacts s m args below meth c 6 (MQ below (ra_Qc X Z) args s 0 0 (ra_A X)) (b_Kn_readFacts_128 I Z) 128 :=
  r_aload_n F d_Kn_readFacts_128 rfl <| r_getR F cg_Kn (j := 3) (by decide) rfl fl_Kn_18 d_Kn_readFacts_129 <| r_iload_n F d_Kn_readFacts_132 rfl <| r_iaload F d_Kn_readFacts_133 <| r_iconst F d_Kn_readFacts_134 (by decide) <| r_icmp_ne F d_Kn_readFacts_135 (by decide) (o_Kn_readFacts_140 F hr hlk hI) (o_Kn_readFacts_138 F hr hlk hI)
theorem o_Kn_readFacts_123 {X : ra_X} {p : Program} {l : Launch} {e : Env} {s : State} {m : MethodId} {args : Array Value} {below : List Frame} {meth : Method} {c : Code} {Z : ra_R}  (F : ra_Fx X p rm_Kn_readFacts s m args c prog_5_method_5_code 6 cn_Kn) (hr : meth.sig.returnType = (some .boolean)) (hlk : meth.locks = false) {I : Nat → ra_K} (hI : ∀ t ∈ [4, 30, 148], ra_At X p l e rm_Kn_readFacts s m args below meth c 6 (MQ below (ra_Qc X Z) args s 0 0 (ra_A X)) (I t) t) : ra_At X p l e rm_Kn_readFacts s m args below meth c 6 (MQ below (ra_Qc X Z) args s 0 0 (ra_A X)) (b_Kn_readFacts_123 I Z) 123 :=
  r_iand F d_Kn_readFacts_123 <| r_iastore F d_Kn_readFacts_124 <| r_goto F d_Kn_readFacts_125 (by decide) (o_Kn_readFacts_140 F hr hlk hI)
theorem o_Kn_readFacts_119 {X : ra_X} {p : Program} {l : Launch} {e : Env} {s : State} {m : MethodId} {args : Array Value} {below : List Frame} {meth : Method} {c : Code} {Z : ra_R}  (F : ra_Fx X p rm_Kn_readFacts s m args c prog_5_method_5_code 6 cn_Kn) (hr : meth.sig.returnType = (some .boolean)) (hlk : meth.locks = false) {I : Nat → ra_K} (hI : ∀ t ∈ [4, 30, 148], ra_At X p l e rm_Kn_readFacts s m args below meth c 6 (MQ below (ra_Qc X Z) args s 0 0 (ra_A X)) (I t) t) : ra_At X p l e rm_Kn_readFacts s m args below meth c 6 (MQ below (ra_Qc X Z) args s 0 0 (ra_A X)) (b_Kn_readFacts_119 I Z) 119 :=
  r_iload F d_Kn_readFacts_119 <| r_iconst F d_Kn_readFacts_121 (by decide) <| r_ixor F d_Kn_readFacts_122 <| (o_Kn_readFacts_123 F hr hlk hI)
theorem o_Kn_readFacts_114 {X : ra_X} {p : Program} {l : Launch} {e : Env} {s : State} {m : MethodId} {args : Array Value} {below : List Frame} {meth : Method} {c : Code} {Z : ra_R}  (F : ra_Fx X p rm_Kn_readFacts s m args c prog_5_method_5_code 6 cn_Kn) (hr : meth.sig.returnType = (some .boolean)) (hlk : meth.locks = false) {I : Nat → ra_K} (hI : ∀ t ∈ [4, 30, 148], ra_At X p l e rm_Kn_readFacts s m args below meth c 6 (MQ below (ra_Qc X Z) args s 0 0 (ra_A X)) (I t) t) : ra_At X p l e rm_Kn_readFacts s m args below meth c 6 (MQ below (ra_Qc X Z) args s 0 0 (ra_A X)) (b_Kn_readFacts_114 I Z) 114 :=
  r_iload F d_Kn_readFacts_114 <| r_goto F d_Kn_readFacts_116 (by decide) (o_Kn_readFacts_123 F hr hlk hI)
theorem o_Kn_readFacts_92 {X : ra_X} {p : Program} {l : Launch} {e : Env} {s : State} {m : MethodId} {args : Array Value} {below : List Frame} {meth : Method} {c : Code} {Z : ra_R}  (F : ra_Fx X p rm_Kn_readFacts s m args c prog_5_method_5_code 6 cn_Kn) (hr : meth.sig.returnType = (some .boolean)) (hlk : meth.locks = false) {I : Nat → ra_K} (hI : ∀ t ∈ [4, 30, 148], ra_At X p l e rm_Kn_readFacts s m args below meth c 6 (MQ below (ra_Qc X Z) args s 0 0 (ra_A X)) (I t) t) : ra_At X p l e rm_Kn_readFacts s m args below meth c 6 (MQ below (ra_Qc X Z) args s 0 0 (ra_A X)) (b_Kn_readFacts_92 I Z) 92 :=
  r_aload_n F d_Kn_readFacts_92 rfl <| r_getR F cg_Kn (j := 4) (by decide) rfl fl_Kn_21 d_Kn_readFacts_93 <| r_aload_n F d_Kn_readFacts_96 rfl <| r_getR F cg_Kn (j := 1) (by decide) rfl fl_Kn_9 d_Kn_readFacts_97 <| r_iload_n F d_Kn_readFacts_100 rfl <| r_iaload F d_Kn_readFacts_101 <| r_dup2 F d_Kn_readFacts_102 <| r_iaload F d_Kn_readFacts_103 <| r_aload_n F d_Kn_readFacts_104 rfl <| r_getR F cg_Kn (j := 3) (by decide) rfl fl_Kn_18 d_Kn_readFacts_105 <| r_iload_n F d_Kn_readFacts_108 rfl <| r_iaload F d_Kn_readFacts_109 <| r_iconst F d_Kn_readFacts_110 (by decide) <| r_icmp_ne F d_Kn_readFacts_111 (by decide) (o_Kn_readFacts_119 F hr hlk hI) (o_Kn_readFacts_114 F hr hlk hI)
theorem o_Kn_readFacts_75 {X : ra_X} {p : Program} {l : Launch} {e : Env} {s : State} {m : MethodId} {args : Array Value} {below : List Frame} {meth : Method} {c : Code} {Z : ra_R}  (F : ra_Fx X p rm_Kn_readFacts s m args c prog_5_method_5_code 6 cn_Kn) (hr : meth.sig.returnType = (some .boolean)) (hlk : meth.locks = false) {I : Nat → ra_K} (hI : ∀ t ∈ [4, 30, 148], ra_At X p l e rm_Kn_readFacts s m args below meth c 6 (MQ below (ra_Qc X Z) args s 0 0 (ra_A X)) (I t) t) : ra_At X p l e rm_Kn_readFacts s m args below meth c 6 (MQ below (ra_Qc X Z) args s 0 0 (ra_A X)) (b_Kn_readFacts_75 I Z) 75 :=
  r_istore F d_Kn_readFacts_75 (by decide) <| r_iconst F d_Kn_readFacts_77 (by decide) <| r_aload_n F d_Kn_readFacts_78 rfl <| r_getR F cg_Kn (j := 2) (by decide) rfl fl_Kn_15 d_Kn_readFacts_79 <| r_iload_n F d_Kn_readFacts_82 rfl <| r_iaload F d_Kn_readFacts_83 <| r_ishl F d_Kn_readFacts_84 <| r_istore F d_Kn_readFacts_85 (by decide) <| r_iload F d_Kn_readFacts_87 <| r_if_eq F d_Kn_readFacts_89 (by decide) (o_Kn_readFacts_128 F hr hlk hI) (o_Kn_readFacts_92 F hr hlk hI)
theorem o_Kn_readFacts_74 {X : ra_X} {p : Program} {l : Launch} {e : Env} {s : State} {m : MethodId} {args : Array Value} {below : List Frame} {meth : Method} {c : Code} {Z : ra_R}  (F : ra_Fx X p rm_Kn_readFacts s m args c prog_5_method_5_code 6 cn_Kn) (hr : meth.sig.returnType = (some .boolean)) (hlk : meth.locks = false) {I : Nat → ra_K} (hI : ∀ t ∈ [4, 30, 148], ra_At X p l e rm_Kn_readFacts s m args below meth c 6 (MQ below (ra_Qc X Z) args s 0 0 (ra_A X)) (I t) t) : ra_At X p l e rm_Kn_readFacts s m args below meth c 6 (MQ below (ra_Qc X Z) args s 0 0 (ra_A X)) (b_Kn_readFacts_74 I Z) 74 :=
  r_iconst F d_Kn_readFacts_74 (by decide) <| (o_Kn_readFacts_75 F hr hlk hI)
theorem o_Kn_readFacts_70 {X : ra_X} {p : Program} {l : Launch} {e : Env} {s : State} {m : MethodId} {args : Array Value} {below : List Frame} {meth : Method} {c : Code} {Z : ra_R}  (F : ra_Fx X p rm_Kn_readFacts s m args c prog_5_method_5_code 6 cn_Kn) (hr : meth.sig.returnType = (some .boolean)) (hlk : meth.locks = false) {I : Nat → ra_K} (hI : ∀ t ∈ [4, 30, 148], ra_At X p l e rm_Kn_readFacts s m args below meth c 6 (MQ below (ra_Qc X Z) args s 0 0 (ra_A X)) (I t) t) : ra_At X p l e rm_Kn_readFacts s m args below meth c 6 (MQ below (ra_Qc X Z) args s 0 0 (ra_A X)) (b_Kn_readFacts_70 I Z) 70 :=
  r_iconst F d_Kn_readFacts_70 (by decide) <| r_goto F d_Kn_readFacts_71 (by decide) (o_Kn_readFacts_75 F hr hlk hI)
theorem o_Kn_readFacts_54 {X : ra_X} {p : Program} {l : Launch} {e : Env} {s : State} {m : MethodId} {args : Array Value} {below : List Frame} {meth : Method} {c : Code} {Z : ra_R}  (F : ra_Fx X p rm_Kn_readFacts s m args c prog_5_method_5_code 6 cn_Kn) (hr : meth.sig.returnType = (some .boolean)) (hlk : meth.locks = false) {I : Nat → ra_K} (hI : ∀ t ∈ [4, 30, 148], ra_At X p l e rm_Kn_readFacts s m args below meth c 6 (MQ below (ra_Qc X Z) args s 0 0 (ra_A X)) (I t) t) : ra_At X p l e rm_Kn_readFacts s m args below meth c 6 (MQ below (ra_Qc X Z) args s 0 0 (ra_A X)) (b_Kn_readFacts_54 I Z) 54 :=
  r_aload_n F d_Kn_readFacts_54 rfl <| r_getR F cg_Kn (j := 2) (by decide) rfl fl_Kn_15 d_Kn_readFacts_55 <| r_iload_n F d_Kn_readFacts_58 rfl <| r_iaload F d_Kn_readFacts_59 <| r_aload_n F d_Kn_readFacts_60 rfl <| r_getR F cg_Kn (j := 0) (by decide) rfl fl_Kn_39 d_Kn_readFacts_61 <| r_getI F cg_V (j := 8) (by decide) rfl fl_Kn_52 d_Kn_readFacts_64 <| r_icmp_ge F d_Kn_readFacts_67 (by decide) (o_Kn_readFacts_74 F hr hlk hI) (o_Kn_readFacts_70 F hr hlk hI)
theorem o_Kn_readFacts_38 {X : ra_X} {p : Program} {l : Launch} {e : Env} {s : State} {m : MethodId} {args : Array Value} {below : List Frame} {meth : Method} {c : Code} {Z : ra_R}  (F : ra_Fx X p rm_Kn_readFacts s m args c prog_5_method_5_code 6 cn_Kn) (hr : meth.sig.returnType = (some .boolean)) (hlk : meth.locks = false) {I : Nat → ra_K} (hI : ∀ t ∈ [4, 30, 148], ra_At X p l e rm_Kn_readFacts s m args below meth c 6 (MQ below (ra_Qc X Z) args s 0 0 (ra_A X)) (I t) t) : ra_At X p l e rm_Kn_readFacts s m args below meth c 6 (MQ below (ra_Qc X Z) args s 0 0 (ra_A X)) (b_Kn_readFacts_38 I Z) 38 :=
  r_aload_n F d_Kn_readFacts_38 rfl <| r_getR F cg_Kn (j := 1) (by decide) rfl fl_Kn_9 d_Kn_readFacts_39 <| r_iload_n F d_Kn_readFacts_42 rfl <| r_iaload F d_Kn_readFacts_43 <| r_aload_n F d_Kn_readFacts_44 rfl <| r_getR F cg_Kn (j := 0) (by decide) rfl fl_Kn_39 d_Kn_readFacts_45 <| r_getI F cg_V (j := 8) (by decide) rfl fl_Kn_52 d_Kn_readFacts_48 <| r_icmp_ge F d_Kn_readFacts_51 (by decide) (o_Kn_readFacts_74 F hr hlk hI) (o_Kn_readFacts_54 F hr hlk hI)
theorem o_Kn_readFacts_30 {X : ra_X} {p : Program} {l : Launch} {e : Env} {s : State} {m : MethodId} {args : Array Value} {below : List Frame} {meth : Method} {c : Code} {Z : ra_R}  (F : ra_Fx X p rm_Kn_readFacts s m args c prog_5_method_5_code 6 cn_Kn) (hr : meth.sig.returnType = (some .boolean)) (hlk : meth.locks = false) {I : Nat → ra_K} (hI : ∀ t ∈ [4, 30, 148], ra_At X p l e rm_Kn_readFacts s m args below meth c 6 (MQ below (ra_Qc X Z) args s 0 0 (ra_A X)) (I t) t) : ra_At X p l e rm_Kn_readFacts s m args below meth c 6 (MQ below (ra_Qc X Z) args s 0 0 (ra_A X)) (b_Kn_readFacts_30 I Z) 30 :=
  r_iload_n F d_Kn_readFacts_30 rfl <| r_aload_n F d_Kn_readFacts_31 rfl <| r_getI F cg_Kn (j := 8) (by decide) rfl fl_Kn_43 d_Kn_readFacts_32 <| r_icmp_ge F d_Kn_readFacts_35 (by decide) (o_Kn_readFacts_146 F hr hlk hI) (o_Kn_readFacts_38 F hr hlk hI)
theorem o_Kn_readFacts_28 {X : ra_X} {p : Program} {l : Launch} {e : Env} {s : State} {m : MethodId} {args : Array Value} {below : List Frame} {meth : Method} {c : Code} {Z : ra_R}  (F : ra_Fx X p rm_Kn_readFacts s m args c prog_5_method_5_code 6 cn_Kn) (hr : meth.sig.returnType = (some .boolean)) (hlk : meth.locks = false) {I : Nat → ra_K} (hI : ∀ t ∈ [4, 30, 148], ra_At X p l e rm_Kn_readFacts s m args below meth c 6 (MQ below (ra_Qc X Z) args s 0 0 (ra_A X)) (I t) t) : ra_At X p l e rm_Kn_readFacts s m args below meth c 6 (MQ below (ra_Qc X Z) args s 0 0 (ra_A X)) (b_Kn_readFacts_28 I Z) 28 :=
  r_iconst F d_Kn_readFacts_28 (by decide) <| r_istore_n F d_Kn_readFacts_29 rfl (by decide) <| (hI 30 (by decide))
theorem o_Kn_readFacts_15 {X : ra_X} {p : Program} {l : Launch} {e : Env} {s : State} {m : MethodId} {args : Array Value} {below : List Frame} {meth : Method} {c : Code} {Z : ra_R}  (F : ra_Fx X p rm_Kn_readFacts s m args c prog_5_method_5_code 6 cn_Kn) (hr : meth.sig.returnType = (some .boolean)) (hlk : meth.locks = false) {I : Nat → ra_K} (hI : ∀ t ∈ [4, 30, 148], ra_At X p l e rm_Kn_readFacts s m args below meth c 6 (MQ below (ra_Qc X Z) args s 0 0 (ra_A X)) (I t) t) : ra_At X p l e rm_Kn_readFacts s m args below meth c 6 (MQ below (ra_Qc X Z) args s 0 0 (ra_A X)) (b_Kn_readFacts_15 I Z) 15 :=
  r_aload_n F d_Kn_readFacts_15 rfl <| r_getR F cg_Kn (j := 4) (by decide) rfl fl_Kn_21 d_Kn_readFacts_16 <| r_iload_n F d_Kn_readFacts_19 rfl <| r_iload_n F d_Kn_readFacts_20 rfl <| r_iastore F d_Kn_readFacts_21 <| r_iinc F d_Kn_readFacts_22 (by decide) (by decide) <| r_goto F d_Kn_readFacts_25 (by decide) (hI 4 (by decide))
theorem o_Kn_readFacts_4 {X : ra_X} {p : Program} {l : Launch} {e : Env} {s : State} {m : MethodId} {args : Array Value} {below : List Frame} {meth : Method} {c : Code} {Z : ra_R}  (F : ra_Fx X p rm_Kn_readFacts s m args c prog_5_method_5_code 6 cn_Kn) (hr : meth.sig.returnType = (some .boolean)) (hlk : meth.locks = false) {I : Nat → ra_K} (hI : ∀ t ∈ [4, 30, 148], ra_At X p l e rm_Kn_readFacts s m args below meth c 6 (MQ below (ra_Qc X Z) args s 0 0 (ra_A X)) (I t) t) : ra_At X p l e rm_Kn_readFacts s m args below meth c 6 (MQ below (ra_Qc X Z) args s 0 0 (ra_A X)) (b_Kn_readFacts_4 I Z) 4 :=
  r_iload_n F d_Kn_readFacts_4 rfl <| r_aload_n F d_Kn_readFacts_5 rfl <| r_getR F cg_Kn (j := 0) (by decide) rfl fl_Kn_39 d_Kn_readFacts_6 <| r_getI F cg_V (j := 8) (by decide) rfl fl_Kn_52 d_Kn_readFacts_9 <| r_icmp_ge F d_Kn_readFacts_12 (by decide) (o_Kn_readFacts_28 F hr hlk hI) (o_Kn_readFacts_15 F hr hlk hI)
theorem o_Kn_readFacts_0 {X : ra_X} {p : Program} {l : Launch} {e : Env} {s : State} {m : MethodId} {args : Array Value} {below : List Frame} {meth : Method} {c : Code} {Z : ra_R}  (F : ra_Fx X p rm_Kn_readFacts s m args c prog_5_method_5_code 6 cn_Kn) (hr : meth.sig.returnType = (some .boolean)) (hlk : meth.locks = false) {I : Nat → ra_K} (hI : ∀ t ∈ [4, 30, 148], ra_At X p l e rm_Kn_readFacts s m args below meth c 6 (MQ below (ra_Qc X Z) args s 0 0 (ra_A X)) (I t) t) : ra_At X p l e rm_Kn_readFacts s m args below meth c 6 (MQ below (ra_Qc X Z) args s 0 0 (ra_A X)) (b_Kn_readFacts_0 I Z) 0 :=
  r_iconst F d_Kn_readFacts_0 (by decide) <| r_istore_n F d_Kn_readFacts_1 rfl (by decide) <| r_iconst F d_Kn_readFacts_2 (by decide) <| r_istore_n F d_Kn_readFacts_3 rfl (by decide) <| (hI 4 (by decide))
theorem g_Kn_readFacts {l : Launch} {X : ra_X}  (sp : ra_Sp) (I : ra_R → List Value → ra_St → Nat → ra_M → ra_K) (ve : ∀ as σ Z, ra_c1 as = true → as.length = 2 → sp as σ Z → b_Kn_readFacts_0 (ra_I (I Z as σ)) Z (ra_pad 6 as) [] σ) (v4 : ∀ as σ Z, sp as σ Z → ∀ μ L S σ1, I Z as σ 4 μ L S σ1 → b_Kn_readFacts_4 (ra_J (I Z as σ) μ) Z L S σ1) (v30 : ∀ as σ Z, sp as σ Z → ∀ μ L S σ1, I Z as σ 30 μ L S σ1 → b_Kn_readFacts_30 (ra_J (I Z as σ) μ) Z L S σ1) (v148 : ∀ as σ Z, sp as σ Z → ∀ μ L S σ1, I Z as σ 148 μ L S σ1 → b_Kn_readFacts_148 (ra_J (I Z as σ) μ) Z L S σ1) : ra_MOK l X mi_Kn_readFacts sp := by
  refine ra_enter (k := fun Z as σ => b_Kn_readFacts_0 (ra_I (I Z as σ)) Z) cn_Kn rfl (by decide +kernel) ⟨by decide +kernel, by decide +kernel⟩ (by decide +kernel) ?_ ve
  intro p e s m args below meth c Z as σ hsp F hr hlk
  refine o_Kn_readFacts_0 F hr hlk (ra_cuts (b := fun t J => if t = 4 then b_Kn_readFacts_4 J Z else if t = 30 then b_Kn_readFacts_30 J Z else if t = 148 then b_Kn_readFacts_148 J Z else fun _ _ _ => False) ?_ ?_)
  · intro t ht J hJ
    simp only [List.mem_cons, List.not_mem_nil, or_false] at ht
    rcases ht with rfl | rfl | rfl
    · exact o_Kn_readFacts_4 F hr hlk hJ
    · exact o_Kn_readFacts_30 F hr hlk hJ
    · exact o_Kn_readFacts_148 F hr hlk hJ
  · intro t ht μ L S σ1 hI
    simp only [List.mem_cons, List.not_mem_nil, or_false] at ht
    rcases ht with rfl | rfl | rfl
    · exact v4 as σ Z hsp μ L S σ1 hI
    · exact v30 as σ Z hsp μ L S σ1 hI
    · exact v148 as σ Z hsp μ L S σ1 hI

theorem d_Kn_countBehind_0 : decode prog_5_method_6_code 0 = .ok (.aload_n 0, 1) := by decide +kernel
theorem d_Kn_countBehind_1 : decode prog_5_method_6_code 1 = .ok (.getfield 27, 3) := by decide +kernel
theorem d_Kn_countBehind_4 : decode prog_5_method_6_code 4 = .ok (.iload_n 1, 1) := by decide +kernel
theorem d_Kn_countBehind_5 : decode prog_5_method_6_code 5 = .ok (.iconst 1, 1) := by decide +kernel
theorem d_Kn_countBehind_6 : decode prog_5_method_6_code 6 = .ok (.iastore, 1) := by decide +kernel
theorem d_Kn_countBehind_7 : decode prog_5_method_6_code 7 = .ok (.iload_n 1, 1) := by decide +kernel
theorem d_Kn_countBehind_8 : decode prog_5_method_6_code 8 = .ok (.iconst 1, 1) := by decide +kernel
theorem d_Kn_countBehind_9 : decode prog_5_method_6_code 9 = .ok (.isub, 1) := by decide +kernel
theorem d_Kn_countBehind_10 : decode prog_5_method_6_code 10 = .ok (.istore_n 2, 1) := by decide +kernel
theorem d_Kn_countBehind_11 : decode prog_5_method_6_code 11 = .ok (.iload_n 2, 1) := by decide +kernel
theorem d_Kn_countBehind_12 : decode prog_5_method_6_code 12 = .ok (.ifCond .lt 84, 3) := by decide +kernel
theorem d_Kn_countBehind_15 : decode prog_5_method_6_code 15 = .ok (.aload_n 0, 1) := by decide +kernel
theorem d_Kn_countBehind_16 : decode prog_5_method_6_code 16 = .ok (.getfield 21, 3) := by decide +kernel
theorem d_Kn_countBehind_19 : decode prog_5_method_6_code 19 = .ok (.iload_n 2, 1) := by decide +kernel
theorem d_Kn_countBehind_20 : decode prog_5_method_6_code 20 = .ok (.invokestatic 70, 3) := by decide +kernel
theorem d_Kn_countBehind_23 : decode prog_5_method_6_code 23 = .ok (.iaload, 1) := by decide +kernel
theorem d_Kn_countBehind_24 : decode prog_5_method_6_code 24 = .ok (.iload_n 2, 1) := by decide +kernel
theorem d_Kn_countBehind_25 : decode prog_5_method_6_code 25 = .ok (.iconst (-1), 1) := by decide +kernel
theorem d_Kn_countBehind_26 : decode prog_5_method_6_code 26 = .ok (.ixor, 1) := by decide +kernel
theorem d_Kn_countBehind_27 : decode prog_5_method_6_code 27 = .ok (.iand, 1) := by decide +kernel
theorem d_Kn_countBehind_28 : decode prog_5_method_6_code 28 = .ok (.istore_n 3, 1) := by decide +kernel
theorem d_Kn_countBehind_29 : decode prog_5_method_6_code 29 = .ok (.iconst 0, 1) := by decide +kernel
theorem d_Kn_countBehind_30 : decode prog_5_method_6_code 30 = .ok (.istore 4, 2) := by decide +kernel
theorem d_Kn_countBehind_32 : decode prog_5_method_6_code 32 = .ok (.iconst 0, 1) := by decide +kernel
theorem d_Kn_countBehind_33 : decode prog_5_method_6_code 33 = .ok (.istore 5, 2) := by decide +kernel
theorem d_Kn_countBehind_35 : decode prog_5_method_6_code 35 = .ok (.iload 5, 2) := by decide +kernel
theorem d_Kn_countBehind_37 : decode prog_5_method_6_code 37 = .ok (.aload_n 0, 1) := by decide +kernel
theorem d_Kn_countBehind_38 : decode prog_5_method_6_code 38 = .ok (.getfield 39, 3) := by decide +kernel
theorem d_Kn_countBehind_41 : decode prog_5_method_6_code 41 = .ok (.getfield 52, 3) := by decide +kernel
theorem d_Kn_countBehind_44 : decode prog_5_method_6_code 44 = .ok (.if_icmp .ge 38, 3) := by decide +kernel
theorem d_Kn_countBehind_47 : decode prog_5_method_6_code 47 = .ok (.iload 4, 2) := by decide +kernel
theorem d_Kn_countBehind_49 : decode prog_5_method_6_code 49 = .ok (.iload_n 3, 1) := by decide +kernel
theorem d_Kn_countBehind_50 : decode prog_5_method_6_code 50 = .ok (.iload 5, 2) := by decide +kernel
theorem d_Kn_countBehind_52 : decode prog_5_method_6_code 52 = .ok (.invokestatic 76, 3) := by decide +kernel
theorem d_Kn_countBehind_55 : decode prog_5_method_6_code 55 = .ok (.ifCond .eq 17, 3) := by decide +kernel
theorem d_Kn_countBehind_58 : decode prog_5_method_6_code 58 = .ok (.aload_n 0, 1) := by decide +kernel
theorem d_Kn_countBehind_59 : decode prog_5_method_6_code 59 = .ok (.getfield 27, 3) := by decide +kernel
theorem d_Kn_countBehind_62 : decode prog_5_method_6_code 62 = .ok (.iload_n 2, 1) := by decide +kernel
theorem d_Kn_countBehind_63 : decode prog_5_method_6_code 63 = .ok (.iconst 1, 1) := by decide +kernel
theorem d_Kn_countBehind_64 : decode prog_5_method_6_code 64 = .ok (.iload 5, 2) := by decide +kernel
theorem d_Kn_countBehind_66 : decode prog_5_method_6_code 66 = .ok (.ishl, 1) := by decide +kernel
theorem d_Kn_countBehind_67 : decode prog_5_method_6_code 67 = .ok (.ior, 1) := by decide +kernel
theorem d_Kn_countBehind_68 : decode prog_5_method_6_code 68 = .ok (.iaload, 1) := by decide +kernel
theorem d_Kn_countBehind_69 : decode prog_5_method_6_code 69 = .ok (.goto 4, 3) := by decide +kernel
theorem d_Kn_countBehind_72 : decode prog_5_method_6_code 72 = .ok (.iconst 0, 1) := by decide +kernel
theorem d_Kn_countBehind_73 : decode prog_5_method_6_code 73 = .ok (.iadd, 1) := by decide +kernel
theorem d_Kn_countBehind_74 : decode prog_5_method_6_code 74 = .ok (.istore 4, 2) := by decide +kernel
theorem d_Kn_countBehind_76 : decode prog_5_method_6_code 76 = .ok (.iinc 5 1, 3) := by decide +kernel
theorem d_Kn_countBehind_79 : decode prog_5_method_6_code 79 = .ok (.goto (-44), 3) := by decide +kernel
theorem d_Kn_countBehind_82 : decode prog_5_method_6_code 82 = .ok (.aload_n 0, 1) := by decide +kernel
theorem d_Kn_countBehind_83 : decode prog_5_method_6_code 83 = .ok (.getfield 27, 3) := by decide +kernel
theorem d_Kn_countBehind_86 : decode prog_5_method_6_code 86 = .ok (.iload_n 2, 1) := by decide +kernel
theorem d_Kn_countBehind_87 : decode prog_5_method_6_code 87 = .ok (.iload 4, 2) := by decide +kernel
theorem d_Kn_countBehind_89 : decode prog_5_method_6_code 89 = .ok (.iastore, 1) := by decide +kernel
theorem d_Kn_countBehind_90 : decode prog_5_method_6_code 90 = .ok (.iinc 2 (-1), 3) := by decide +kernel
theorem d_Kn_countBehind_93 : decode prog_5_method_6_code 93 = .ok (.goto (-82), 3) := by decide +kernel
theorem d_Kn_countBehind_96 : decode prog_5_method_6_code 96 = .ok (.return_, 1) := by decide +kernel
def b_Kn_countBehind_96 (c0 c1 : ra_Sp) (I : Nat → ra_K) (Z : ra_R) : ra_K := w_vr Z
def b_Kn_countBehind_82 (c0 c1 : ra_Sp) (I : Nat → ra_K) (Z : ra_R) : ra_K := w_al 0 <| w_gr 8 6 <| w_il 2 <| w_il 4 <| w_ast <| w_inc 2 (-1) <| (I 11)
def b_Kn_countBehind_73 (c0 c1 : ra_Sp) (I : Nat → ra_K) (Z : ra_R) : ra_K := w_i2 (fun x y => x + y) <| w_is 4 <| w_inc 5 1 <| (I 35)
def b_Kn_countBehind_72 (c0 c1 : ra_Sp) (I : Nat → ra_K) (Z : ra_R) : ra_K := w_c 0 <| (b_Kn_countBehind_73 c0 c1 I Z)
def b_Kn_countBehind_58 (c0 c1 : ra_Sp) (I : Nat → ra_K) (Z : ra_R) : ra_K := w_al 0 <| w_gr 8 6 <| w_il 2 <| w_c 1 <| w_il 5 <| w_i2 (fun x y => x <<< (y &&& 31)) <| w_i2 (fun x y => x ||| y) <| w_ald <| (b_Kn_countBehind_73 c0 c1 I Z)
def b_Kn_countBehind_47 (c0 c1 : ra_Sp) (I : Nat → ra_K) (Z : ra_R) : ra_K := w_il 4 <| w_il 3 <| w_il 5 <| w_cs c1 2 <| w_b1 (fun x => x = 0) (b_Kn_countBehind_72 c0 c1 I Z) (b_Kn_countBehind_58 c0 c1 I Z)
def b_Kn_countBehind_35 (c0 c1 : ra_Sp) (I : Nat → ra_K) (Z : ra_R) : ra_K := w_il 5 <| w_al 0 <| w_gr 8 0 <| w_gi 1 8 <| w_b2 (fun x y => y ≤ x) (b_Kn_countBehind_82 c0 c1 I Z) (b_Kn_countBehind_47 c0 c1 I Z)
def b_Kn_countBehind_15 (c0 c1 : ra_Sp) (I : Nat → ra_K) (Z : ra_R) : ra_K := w_al 0 <| w_gr 8 4 <| w_il 2 <| w_cs c0 1 <| w_ald <| w_il 2 <| w_c (-1) <| w_i2 (fun x y => x ^^^ y) <| w_i2 (fun x y => x &&& y) <| w_is 3 <| w_c 0 <| w_is 4 <| w_c 0 <| w_is 5 <| (I 35)
def b_Kn_countBehind_11 (c0 c1 : ra_Sp) (I : Nat → ra_K) (Z : ra_R) : ra_K := w_il 2 <| w_b1 (fun x => x < 0) (b_Kn_countBehind_96 c0 c1 I Z) (b_Kn_countBehind_15 c0 c1 I Z)
def b_Kn_countBehind_0 (c0 c1 : ra_Sp) (I : Nat → ra_K) (Z : ra_R) : ra_K := w_al 0 <| w_gr 8 6 <| w_il 1 <| w_c 1 <| w_ast <| w_il 1 <| w_c 1 <| w_i2 (fun x y => x - y) <| w_is 2 <| (I 11)
theorem o_Kn_countBehind_96 {X : ra_X} {p : Program} {l : Launch} {e : Env} {s : State} {m : MethodId} {args : Array Value} {below : List Frame} {meth : Method} {c : Code} {Z : ra_R} {c0 c1 : ra_Sp}  (h0 : ra_MOK l X mi_J_bitCount c0) (h1 : ra_MOK l X mi_R_has c1) (F : ra_Fx X p rm_Kn_countBehind s m args c prog_5_method_6_code 6 cn_Kn) (hr : meth.sig.returnType = none) (hlk : meth.locks = false) {I : Nat → ra_K} (hI : ∀ t ∈ [11, 35], ra_At X p l e rm_Kn_countBehind s m args below meth c 6 (MQ below (ra_Qc X Z) args s 0 0 (ra_A X)) (I t) t) : ra_At X p l e rm_Kn_countBehind s m args below meth c 6 (MQ below (ra_Qc X Z) args s 0 0 (ra_A X)) (b_Kn_countBehind_96 c0 c1 I Z) 96 :=
  r_return F hr hlk d_Kn_countBehind_96
theorem o_Kn_countBehind_82 {X : ra_X} {p : Program} {l : Launch} {e : Env} {s : State} {m : MethodId} {args : Array Value} {below : List Frame} {meth : Method} {c : Code} {Z : ra_R} {c0 c1 : ra_Sp}  (h0 : ra_MOK l X mi_J_bitCount c0) (h1 : ra_MOK l X mi_R_has c1) (F : ra_Fx X p rm_Kn_countBehind s m args c prog_5_method_6_code 6 cn_Kn) (hr : meth.sig.returnType = none) (hlk : meth.locks = false) {I : Nat → ra_K} (hI : ∀ t ∈ [11, 35], ra_At X p l e rm_Kn_countBehind s m args below meth c 6 (MQ below (ra_Qc X Z) args s 0 0 (ra_A X)) (I t) t) : ra_At X p l e rm_Kn_countBehind s m args below meth c 6 (MQ below (ra_Qc X Z) args s 0 0 (ra_A X)) (b_Kn_countBehind_82 c0 c1 I Z) 82 :=
  r_aload_n F d_Kn_countBehind_82 rfl <| r_getR F cg_Kn (j := 6) (by decide) rfl fl_Kn_27 d_Kn_countBehind_83 <| r_iload_n F d_Kn_countBehind_86 rfl <| r_iload F d_Kn_countBehind_87 <| r_iastore F d_Kn_countBehind_89 <| r_iinc F d_Kn_countBehind_90 (by decide) (by decide) <| r_goto F d_Kn_countBehind_93 (by decide) (hI 11 (by decide))
theorem o_Kn_countBehind_73 {X : ra_X} {p : Program} {l : Launch} {e : Env} {s : State} {m : MethodId} {args : Array Value} {below : List Frame} {meth : Method} {c : Code} {Z : ra_R} {c0 c1 : ra_Sp}  (h0 : ra_MOK l X mi_J_bitCount c0) (h1 : ra_MOK l X mi_R_has c1) (F : ra_Fx X p rm_Kn_countBehind s m args c prog_5_method_6_code 6 cn_Kn) (hr : meth.sig.returnType = none) (hlk : meth.locks = false) {I : Nat → ra_K} (hI : ∀ t ∈ [11, 35], ra_At X p l e rm_Kn_countBehind s m args below meth c 6 (MQ below (ra_Qc X Z) args s 0 0 (ra_A X)) (I t) t) : ra_At X p l e rm_Kn_countBehind s m args below meth c 6 (MQ below (ra_Qc X Z) args s 0 0 (ra_A X)) (b_Kn_countBehind_73 c0 c1 I Z) 73 :=
  r_iadd F d_Kn_countBehind_73 <| r_istore F d_Kn_countBehind_74 (by decide) <| r_iinc F d_Kn_countBehind_76 (by decide) (by decide) <| r_goto F d_Kn_countBehind_79 (by decide) (hI 35 (by decide))
theorem o_Kn_countBehind_72 {X : ra_X} {p : Program} {l : Launch} {e : Env} {s : State} {m : MethodId} {args : Array Value} {below : List Frame} {meth : Method} {c : Code} {Z : ra_R} {c0 c1 : ra_Sp}  (h0 : ra_MOK l X mi_J_bitCount c0) (h1 : ra_MOK l X mi_R_has c1) (F : ra_Fx X p rm_Kn_countBehind s m args c prog_5_method_6_code 6 cn_Kn) (hr : meth.sig.returnType = none) (hlk : meth.locks = false) {I : Nat → ra_K} (hI : ∀ t ∈ [11, 35], ra_At X p l e rm_Kn_countBehind s m args below meth c 6 (MQ below (ra_Qc X Z) args s 0 0 (ra_A X)) (I t) t) : ra_At X p l e rm_Kn_countBehind s m args below meth c 6 (MQ below (ra_Qc X Z) args s 0 0 (ra_A X)) (b_Kn_countBehind_72 c0 c1 I Z) 72 :=
  r_iconst F d_Kn_countBehind_72 (by decide) <| (o_Kn_countBehind_73 h0 h1 F hr hlk hI)
theorem o_Kn_countBehind_58 {X : ra_X} {p : Program} {l : Launch} {e : Env} {s : State} {m : MethodId} {args : Array Value} {below : List Frame} {meth : Method} {c : Code} {Z : ra_R} {c0 c1 : ra_Sp}  (h0 : ra_MOK l X mi_J_bitCount c0) (h1 : ra_MOK l X mi_R_has c1) (F : ra_Fx X p rm_Kn_countBehind s m args c prog_5_method_6_code 6 cn_Kn) (hr : meth.sig.returnType = none) (hlk : meth.locks = false) {I : Nat → ra_K} (hI : ∀ t ∈ [11, 35], ra_At X p l e rm_Kn_countBehind s m args below meth c 6 (MQ below (ra_Qc X Z) args s 0 0 (ra_A X)) (I t) t) : ra_At X p l e rm_Kn_countBehind s m args below meth c 6 (MQ below (ra_Qc X Z) args s 0 0 (ra_A X)) (b_Kn_countBehind_58 c0 c1 I Z) 58 :=
  r_aload_n F d_Kn_countBehind_58 rfl <| r_getR F cg_Kn (j := 6) (by decide) rfl fl_Kn_27 d_Kn_countBehind_59 <| r_iload_n F d_Kn_countBehind_62 rfl <| r_iconst F d_Kn_countBehind_63 (by decide) <| r_iload F d_Kn_countBehind_64 <| r_ishl F d_Kn_countBehind_66 <| r_ior F d_Kn_countBehind_67 <| r_iaload F d_Kn_countBehind_68 <| r_goto F d_Kn_countBehind_69 (by decide) (o_Kn_countBehind_73 h0 h1 F hr hlk hI)
theorem o_Kn_countBehind_47 {X : ra_X} {p : Program} {l : Launch} {e : Env} {s : State} {m : MethodId} {args : Array Value} {below : List Frame} {meth : Method} {c : Code} {Z : ra_R} {c0 c1 : ra_Sp}  (h0 : ra_MOK l X mi_J_bitCount c0) (h1 : ra_MOK l X mi_R_has c1) (F : ra_Fx X p rm_Kn_countBehind s m args c prog_5_method_6_code 6 cn_Kn) (hr : meth.sig.returnType = none) (hlk : meth.locks = false) {I : Nat → ra_K} (hI : ∀ t ∈ [11, 35], ra_At X p l e rm_Kn_countBehind s m args below meth c 6 (MQ below (ra_Qc X Z) args s 0 0 (ra_A X)) (I t) t) : ra_At X p l e rm_Kn_countBehind s m args below meth c 6 (MQ below (ra_Qc X Z) args s 0 0 (ra_A X)) (b_Kn_countBehind_47 c0 c1 I Z) 47 :=
  r_iload F d_Kn_countBehind_47 <| r_iload_n F d_Kn_countBehind_49 rfl <| r_iload F d_Kn_countBehind_50 <| r_callSN F h1 (co_R_has (by decide +kernel) (by decide +kernel)) ⟨rfl, by decide +kernel⟩ (host := "RoofAcross") (by decide +kernel) st_R_has d_Kn_countBehind_52 <| r_if_eq F d_Kn_countBehind_55 (by decide) (o_Kn_countBehind_72 h0 h1 F hr hlk hI) (o_Kn_countBehind_58 h0 h1 F hr hlk hI)
theorem o_Kn_countBehind_35 {X : ra_X} {p : Program} {l : Launch} {e : Env} {s : State} {m : MethodId} {args : Array Value} {below : List Frame} {meth : Method} {c : Code} {Z : ra_R} {c0 c1 : ra_Sp}  (h0 : ra_MOK l X mi_J_bitCount c0) (h1 : ra_MOK l X mi_R_has c1) (F : ra_Fx X p rm_Kn_countBehind s m args c prog_5_method_6_code 6 cn_Kn) (hr : meth.sig.returnType = none) (hlk : meth.locks = false) {I : Nat → ra_K} (hI : ∀ t ∈ [11, 35], ra_At X p l e rm_Kn_countBehind s m args below meth c 6 (MQ below (ra_Qc X Z) args s 0 0 (ra_A X)) (I t) t) : ra_At X p l e rm_Kn_countBehind s m args below meth c 6 (MQ below (ra_Qc X Z) args s 0 0 (ra_A X)) (b_Kn_countBehind_35 c0 c1 I Z) 35 :=
  r_iload F d_Kn_countBehind_35 <| r_aload_n F d_Kn_countBehind_37 rfl <| r_getR F cg_Kn (j := 0) (by decide) rfl fl_Kn_39 d_Kn_countBehind_38 <| r_getI F cg_V (j := 8) (by decide) rfl fl_Kn_52 d_Kn_countBehind_41 <| r_icmp_ge F d_Kn_countBehind_44 (by decide) (o_Kn_countBehind_82 h0 h1 F hr hlk hI) (o_Kn_countBehind_47 h0 h1 F hr hlk hI)
theorem o_Kn_countBehind_15 {X : ra_X} {p : Program} {l : Launch} {e : Env} {s : State} {m : MethodId} {args : Array Value} {below : List Frame} {meth : Method} {c : Code} {Z : ra_R} {c0 c1 : ra_Sp}  (h0 : ra_MOK l X mi_J_bitCount c0) (h1 : ra_MOK l X mi_R_has c1) (F : ra_Fx X p rm_Kn_countBehind s m args c prog_5_method_6_code 6 cn_Kn) (hr : meth.sig.returnType = none) (hlk : meth.locks = false) {I : Nat → ra_K} (hI : ∀ t ∈ [11, 35], ra_At X p l e rm_Kn_countBehind s m args below meth c 6 (MQ below (ra_Qc X Z) args s 0 0 (ra_A X)) (I t) t) : ra_At X p l e rm_Kn_countBehind s m args below meth c 6 (MQ below (ra_Qc X Z) args s 0 0 (ra_A X)) (b_Kn_countBehind_15 c0 c1 I Z) 15 :=
  r_aload_n F d_Kn_countBehind_15 rfl <| r_getR F cg_Kn (j := 4) (by decide) rfl fl_Kn_21 d_Kn_countBehind_16 <| r_iload_n F d_Kn_countBehind_19 rfl <| r_callS F h0 (co_J_bitCount (by decide +kernel) (by decide +kernel)) ⟨rfl, by decide +kernel⟩ ml_Kn_70 st_J_bitCount d_Kn_countBehind_20 <| r_iaload F d_Kn_countBehind_23 <| r_iload_n F d_Kn_countBehind_24 rfl <| r_iconst F d_Kn_countBehind_25 (by decide) <| r_ixor F d_Kn_countBehind_26 <| r_iand F d_Kn_countBehind_27 <| r_istore_n F d_Kn_countBehind_28 rfl (by decide) <| r_iconst F d_Kn_countBehind_29 (by decide) <| r_istore F d_Kn_countBehind_30 (by decide) <| r_iconst F d_Kn_countBehind_32 (by decide) <| r_istore F d_Kn_countBehind_33 (by decide) <| (hI 35 (by decide))
theorem o_Kn_countBehind_11 {X : ra_X} {p : Program} {l : Launch} {e : Env} {s : State} {m : MethodId} {args : Array Value} {below : List Frame} {meth : Method} {c : Code} {Z : ra_R} {c0 c1 : ra_Sp}  (h0 : ra_MOK l X mi_J_bitCount c0) (h1 : ra_MOK l X mi_R_has c1) (F : ra_Fx X p rm_Kn_countBehind s m args c prog_5_method_6_code 6 cn_Kn) (hr : meth.sig.returnType = none) (hlk : meth.locks = false) {I : Nat → ra_K} (hI : ∀ t ∈ [11, 35], ra_At X p l e rm_Kn_countBehind s m args below meth c 6 (MQ below (ra_Qc X Z) args s 0 0 (ra_A X)) (I t) t) : ra_At X p l e rm_Kn_countBehind s m args below meth c 6 (MQ below (ra_Qc X Z) args s 0 0 (ra_A X)) (b_Kn_countBehind_11 c0 c1 I Z) 11 :=
  r_iload_n F d_Kn_countBehind_11 rfl <| r_if_lt F d_Kn_countBehind_12 (by decide) (o_Kn_countBehind_96 h0 h1 F hr hlk hI) (o_Kn_countBehind_15 h0 h1 F hr hlk hI)
theorem o_Kn_countBehind_0 {X : ra_X} {p : Program} {l : Launch} {e : Env} {s : State} {m : MethodId} {args : Array Value} {below : List Frame} {meth : Method} {c : Code} {Z : ra_R} {c0 c1 : ra_Sp}  (h0 : ra_MOK l X mi_J_bitCount c0) (h1 : ra_MOK l X mi_R_has c1) (F : ra_Fx X p rm_Kn_countBehind s m args c prog_5_method_6_code 6 cn_Kn) (hr : meth.sig.returnType = none) (hlk : meth.locks = false) {I : Nat → ra_K} (hI : ∀ t ∈ [11, 35], ra_At X p l e rm_Kn_countBehind s m args below meth c 6 (MQ below (ra_Qc X Z) args s 0 0 (ra_A X)) (I t) t) : ra_At X p l e rm_Kn_countBehind s m args below meth c 6 (MQ below (ra_Qc X Z) args s 0 0 (ra_A X)) (b_Kn_countBehind_0 c0 c1 I Z) 0 :=
  r_aload_n F d_Kn_countBehind_0 rfl <| r_getR F cg_Kn (j := 6) (by decide) rfl fl_Kn_27 d_Kn_countBehind_1 <| r_iload_n F d_Kn_countBehind_4 rfl <| r_iconst F d_Kn_countBehind_5 (by decide) <| r_iastore F d_Kn_countBehind_6 <| r_iload_n F d_Kn_countBehind_7 rfl <| r_iconst F d_Kn_countBehind_8 (by decide) <| r_isub F d_Kn_countBehind_9 <| r_istore_n F d_Kn_countBehind_10 rfl (by decide) <| (hI 11 (by decide))
theorem g_Kn_countBehind {l : Launch} {X : ra_X} {c0 c1 : ra_Sp}  (h0 : ra_MOK l X mi_J_bitCount c0) (h1 : ra_MOK l X mi_R_has c1) (sp : ra_Sp) (I : ra_R → List Value → ra_St → Nat → ra_M → ra_K) (ve : ∀ as σ Z, ra_c1 as = true → as.length = 2 → sp as σ Z → b_Kn_countBehind_0 c0 c1 (ra_I (I Z as σ)) Z (ra_pad 6 as) [] σ) (v11 : ∀ as σ Z, sp as σ Z → ∀ μ L S σ1, I Z as σ 11 μ L S σ1 → b_Kn_countBehind_11 c0 c1 (ra_J (I Z as σ) μ) Z L S σ1) (v35 : ∀ as σ Z, sp as σ Z → ∀ μ L S σ1, I Z as σ 35 μ L S σ1 → b_Kn_countBehind_35 c0 c1 (ra_J (I Z as σ) μ) Z L S σ1) : ra_MOK l X mi_Kn_countBehind sp := by
  refine ra_enter (k := fun Z as σ => b_Kn_countBehind_0 c0 c1 (ra_I (I Z as σ)) Z) cn_Kn rfl (by decide +kernel) ⟨by decide +kernel, by decide +kernel⟩ (by decide +kernel) ?_ ve
  intro p e s m args below meth c Z as σ hsp F hr hlk
  refine o_Kn_countBehind_0 h0 h1 F hr hlk (ra_cuts (b := fun t J => if t = 11 then b_Kn_countBehind_11 c0 c1 J Z else if t = 35 then b_Kn_countBehind_35 c0 c1 J Z else fun _ _ _ => False) ?_ ?_)
  · intro t ht J hJ
    simp only [List.mem_cons, List.not_mem_nil, or_false] at ht
    rcases ht with rfl | rfl
    · exact o_Kn_countBehind_11 h0 h1 F hr hlk hJ
    · exact o_Kn_countBehind_35 h0 h1 F hr hlk hJ
  · intro t ht μ L S σ1 hI
    simp only [List.mem_cons, List.not_mem_nil, or_false] at ht
    rcases ht with rfl | rfl
    · exact v11 as σ Z hsp μ L S σ1 hI
    · exact v35 as σ Z hsp μ L S σ1 hI
