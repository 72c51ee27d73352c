theorem d_Sh_lacks_0 : decode prog_7_method_4_code 0 = .ok (.iload_n 1, 1) := by decide +kernel
theorem d_Sh_lacks_1 : decode prog_7_method_4_code 1 = .ok (.ifCond .lt 25, 3) := by decide +kernel
theorem d_Sh_lacks_4 : decode prog_7_method_4_code 4 = .ok (.iload_n 2, 1) := by decide +kernel
theorem d_Sh_lacks_5 : decode prog_7_method_4_code 5 = .ok (.ifCond .lt 21, 3) := by decide +kernel
theorem d_Sh_lacks_8 : decode prog_7_method_4_code 8 = .ok (.iload_n 1, 1) := by decide +kernel
theorem d_Sh_lacks_9 : decode prog_7_method_4_code 9 = .ok (.aload_n 0, 1) := by decide +kernel
theorem d_Sh_lacks_10 : decode prog_7_method_4_code 10 = .ok (.getfield 23, 3) := by decide +kernel
theorem d_Sh_lacks_13 : decode prog_7_method_4_code 13 = .ok (.if_icmp .gt 13, 3) := by decide +kernel
theorem d_Sh_lacks_16 : decode prog_7_method_4_code 16 = .ok (.iload_n 2, 1) := by decide +kernel
theorem d_Sh_lacks_17 : decode prog_7_method_4_code 17 = .ok (.aload_n 0, 1) := by decide +kernel
theorem d_Sh_lacks_18 : decode prog_7_method_4_code 18 = .ok (.getfield 23, 3) := by decide +kernel
theorem d_Sh_lacks_21 : decode prog_7_method_4_code 21 = .ok (.iload_n 1, 1) := by decide +kernel
theorem d_Sh_lacks_22 : decode prog_7_method_4_code 22 = .ok (.isub, 1) := by decide +kernel
theorem d_Sh_lacks_23 : decode prog_7_method_4_code 23 = .ok (.if_icmp .le 7, 3) := by decide +kernel
theorem d_Sh_lacks_26 : decode prog_7_method_4_code 26 = .ok (.iconst 1, 1) := by decide +kernel
theorem d_Sh_lacks_27 : decode prog_7_method_4_code 27 = .ok (.goto 4, 3) := by decide +kernel
theorem d_Sh_lacks_30 : decode prog_7_method_4_code 30 = .ok (.iconst 0, 1) := by decide +kernel
theorem d_Sh_lacks_31 : decode prog_7_method_4_code 31 = .ok (.ireturn, 1) := by decide +kernel
def b_Sh_lacks_31 (Z : ra_R) : ra_K := w_zr Z
def b_Sh_lacks_30 (Z : ra_R) : ra_K := w_c 0 <| (b_Sh_lacks_31 Z)
def b_Sh_lacks_26 (Z : ra_R) : ra_K := w_c 1 <| (b_Sh_lacks_31 Z)
def b_Sh_lacks_16 (Z : ra_R) : ra_K := w_il 2 <| w_al 0 <| w_gi 10 3 <| w_il 1 <| w_i2 (fun x y => x - y) <| w_b2 (fun x y => x ≤ y) (b_Sh_lacks_30 Z) (b_Sh_lacks_26 Z)
def b_Sh_lacks_8 (Z : ra_R) : ra_K := w_il 1 <| w_al 0 <| w_gi 10 3 <| w_b2 (fun x y => y < x) (b_Sh_lacks_26 Z) (b_Sh_lacks_16 Z)
def b_Sh_lacks_4 (Z : ra_R) : ra_K := w_il 2 <| w_b1 (fun x => x < 0) (b_Sh_lacks_26 Z) (b_Sh_lacks_8 Z)
def b_Sh_lacks_0 (Z : ra_R) : ra_K := w_il 1 <| w_b1 (fun x => x < 0) (b_Sh_lacks_26 Z) (b_Sh_lacks_4 Z)
theorem o_Sh_lacks_31 {X : ra_X} {p : Program} {l : Launch} {e : Env} {s : State} {m : MethodId} {args : Array Value} {below : List Frame} {meth : Method} {c : Code} {Z : ra_R}  (F : ra_Fx X p rm_Sh_lacks s m args c prog_7_method_4_code 3 cn_Sh) (hr : meth.sig.returnType = (some .boolean)) (hlk : meth.locks = false) : ra_At X p l e rm_Sh_lacks s m args below meth c 3 (MQ below (ra_Qc X Z) args s 0 0 (ra_A X)) (b_Sh_lacks_31 Z) 31 :=
  r_zreturn F hr hlk d_Sh_lacks_31
theorem o_Sh_lacks_30 {X : ra_X} {p : Program} {l : Launch} {e : Env} {s : State} {m : MethodId} {args : Array Value} {below : List Frame} {meth : Method} {c : Code} {Z : ra_R}  (F : ra_Fx X p rm_Sh_lacks s m args c prog_7_method_4_code 3 cn_Sh) (hr : meth.sig.returnType = (some .boolean)) (hlk : meth.locks = false) : ra_At X p l e rm_Sh_lacks s m args below meth c 3 (MQ below (ra_Qc X Z) args s 0 0 (ra_A X)) (b_Sh_lacks_30 Z) 30 :=
  r_iconst F d_Sh_lacks_30 (by decide) <| (o_Sh_lacks_31 F hr hlk)
theorem o_Sh_lacks_26 {X : ra_X} {p : Program} {l : Launch} {e : Env} {s : State} {m : MethodId} {args : Array Value} {below : List Frame} {meth : Method} {c : Code} {Z : ra_R}  (F : ra_Fx X p rm_Sh_lacks s m args c prog_7_method_4_code 3 cn_Sh) (hr : meth.sig.returnType = (some .boolean)) (hlk : meth.locks = false) : ra_At X p l e rm_Sh_lacks s m args below meth c 3 (MQ below (ra_Qc X Z) args s 0 0 (ra_A X)) (b_Sh_lacks_26 Z) 26 :=
  r_iconst F d_Sh_lacks_26 (by decide) <| r_goto F d_Sh_lacks_27 (by decide) (o_Sh_lacks_31 F hr hlk)
theorem o_Sh_lacks_16 {X : ra_X} {p : Program} {l : Launch} {e : Env} {s : State} {m : MethodId} {args : Array Value} {below : List Frame} {meth : Method} {c : Code} {Z : ra_R}  (F : ra_Fx X p rm_Sh_lacks s m args c prog_7_method_4_code 3 cn_Sh) (hr : meth.sig.returnType = (some .boolean)) (hlk : meth.locks = false) : ra_At X p l e rm_Sh_lacks s m args below meth c 3 (MQ below (ra_Qc X Z) args s 0 0 (ra_A X)) (b_Sh_lacks_16 Z) 16 :=
  r_iload_n F d_Sh_lacks_16 rfl <| r_aload_n F d_Sh_lacks_17 rfl <| r_getI F cg_Sh (j := 3) (by decide) rfl fl_Sh_23 d_Sh_lacks_18 <| r_iload_n F d_Sh_lacks_21 rfl <| r_isub F d_Sh_lacks_22 <| r_icmp_le F d_Sh_lacks_23 (by decide) (o_Sh_lacks_30 F hr hlk) (o_Sh_lacks_26 F hr hlk)
theorem o_Sh_lacks_8 {X : ra_X} {p : Program} {l : Launch} {e : Env} {s : State} {m : MethodId} {args : Array Value} {below : List Frame} {meth : Method} {c : Code} {Z : ra_R}  (F : ra_Fx X p rm_Sh_lacks s m args c prog_7_method_4_code 3 cn_Sh) (hr : meth.sig.returnType = (some .boolean)) (hlk : meth.locks = false) : ra_At X p l e rm_Sh_lacks s m args below meth c 3 (MQ below (ra_Qc X Z) args s 0 0 (ra_A X)) (b_Sh_lacks_8 Z) 8 :=
  r_iload_n F d_Sh_lacks_8 rfl <| r_aload_n F d_Sh_lacks_9 rfl <| r_getI F cg_Sh (j := 3) (by decide) rfl fl_Sh_23 d_Sh_lacks_10 <| r_icmp_gt F d_Sh_lacks_13 (by decide) (o_Sh_lacks_26 F hr hlk) (o_Sh_lacks_16 F hr hlk)
theorem o_Sh_lacks_4 {X : ra_X} {p : Program} {l : Launch} {e : Env} {s : State} {m : MethodId} {args : Array Value} {below : List Frame} {meth : Method} {c : Code} {Z : ra_R}  (F : ra_Fx X p rm_Sh_lacks s m args c prog_7_method_4_code 3 cn_Sh) (hr : meth.sig.returnType = (some .boolean)) (hlk : meth.locks = false) : ra_At X p l e rm_Sh_lacks s m args below meth c 3 (MQ below (ra_Qc X Z) args s 0 0 (ra_A X)) (b_Sh_lacks_4 Z) 4 :=
  r_iload_n F d_Sh_lacks_4 rfl <| r_if_lt F d_Sh_lacks_5 (by decide) (o_Sh_lacks_26 F hr hlk) (o_Sh_lacks_8 F hr hlk)
theorem o_Sh_lacks_0 {X : ra_X} {p : Program} {l : Launch} {e : Env} {s : State} {m : MethodId} {args : Array Value} {below : List Frame} {meth : Method} {c : Code} {Z : ra_R}  (F : ra_Fx X p rm_Sh_lacks s m args c prog_7_method_4_code 3 cn_Sh) (hr : meth.sig.returnType = (some .boolean)) (hlk : meth.locks = false) : ra_At X p l e rm_Sh_lacks s m args below meth c 3 (MQ below (ra_Qc X Z) args s 0 0 (ra_A X)) (b_Sh_lacks_0 Z) 0 :=
  r_iload_n F d_Sh_lacks_0 rfl <| r_if_lt F d_Sh_lacks_1 (by decide) (o_Sh_lacks_26 F hr hlk) (o_Sh_lacks_4 F hr hlk)
theorem g_Sh_lacks {l : Launch} {X : ra_X}  (sp : ra_Sp) (ve : ∀ as σ Z, ra_c1 as = true → as.length = 3 → sp as σ Z → b_Sh_lacks_0 Z (ra_pad 3 as) [] σ) : ra_MOK l X mi_Sh_lacks sp := by
  refine ra_enter (k := fun Z as σ => b_Sh_lacks_0 Z) cn_Sh rfl (by decide +kernel) ⟨by decide +kernel, by decide +kernel⟩ (by decide +kernel) ?_ ve
  intro p e s m args below meth c Z as σ hsp F hr hlk
  exact o_Sh_lacks_0 F hr hlk

theorem d_R_copy_0 : decode prog_1_method_32_code 0 = .ok (.iload_n 1, 1) := by decide +kernel
theorem d_R_copy_1 : decode prog_1_method_32_code 1 = .ok (.invokestatic 119, 3) := by decide +kernel
theorem d_R_copy_4 : decode prog_1_method_32_code 4 = .ok (.ifCond .ne 10, 3) := by decide +kernel
theorem d_R_copy_7 : decode prog_1_method_32_code 7 = .ok (.iload_n 3, 1) := by decide +kernel
theorem d_R_copy_8 : decode prog_1_method_32_code 8 = .ok (.invokestatic 119, 3) := by decide +kernel
theorem d_R_copy_11 : decode prog_1_method_32_code 11 = .ok (.ifCond .eq 6, 3) := by decide +kernel
theorem d_R_copy_14 : decode prog_1_method_32_code 14 = .ok (.bipush (-2), 2) := by decide +kernel
theorem d_R_copy_16 : decode prog_1_method_32_code 16 = .ok (.ireturn, 1) := by decide +kernel
theorem d_R_copy_17 : decode prog_1_method_32_code 17 = .ok (.aload_n 0, 1) := by decide +kernel
theorem d_R_copy_18 : decode prog_1_method_32_code 18 = .ok (.getfield 68, 3) := by decide +kernel
theorem d_R_copy_21 : decode prog_1_method_32_code 21 = .ok (.iload_n 1, 1) := by decide +kernel
theorem d_R_copy_22 : decode prog_1_method_32_code 22 = .ok (.aaload, 1) := by decide +kernel
theorem d_R_copy_23 : decode prog_1_method_32_code 23 = .ok (.astore 6, 2) := by decide +kernel
theorem d_R_copy_25 : decode prog_1_method_32_code 25 = .ok (.aload_n 0, 1) := by decide +kernel
theorem d_R_copy_26 : decode prog_1_method_32_code 26 = .ok (.getfield 68, 3) := by decide +kernel
theorem d_R_copy_29 : decode prog_1_method_32_code 29 = .ok (.iload_n 3, 1) := by decide +kernel
theorem d_R_copy_30 : decode prog_1_method_32_code 30 = .ok (.aaload, 1) := by decide +kernel
theorem d_R_copy_31 : decode prog_1_method_32_code 31 = .ok (.astore 7, 2) := by decide +kernel
theorem d_R_copy_33 : decode prog_1_method_32_code 33 = .ok (.aload 6, 2) := by decide +kernel
theorem d_R_copy_35 : decode prog_1_method_32_code 35 = .ok (.getfield 122, 3) := by decide +kernel
theorem d_R_copy_38 : decode prog_1_method_32_code 38 = .ok (.ifCond .ne 11, 3) := by decide +kernel
theorem d_R_copy_41 : decode prog_1_method_32_code 41 = .ok (.aload 7, 2) := by decide +kernel
theorem d_R_copy_43 : decode prog_1_method_32_code 43 = .ok (.getfield 122, 3) := by decide +kernel
theorem d_R_copy_46 : decode prog_1_method_32_code 46 = .ok (.ifCond .eq 9, 3) := by decide +kernel
theorem d_R_copy_49 : decode prog_1_method_32_code 49 = .ok (.aload_n 0, 1) := by decide +kernel
theorem d_R_copy_50 : decode prog_1_method_32_code 50 = .ok (.iconst 1, 1) := by decide +kernel
theorem d_R_copy_51 : decode prog_1_method_32_code 51 = .ok (.invokevirtual 126, 3) := by decide +kernel
theorem d_R_copy_54 : decode prog_1_method_32_code 54 = .ok (.ireturn, 1) := by decide +kernel
theorem d_R_copy_55 : decode prog_1_method_32_code 55 = .ok (.aload 6, 2) := by decide +kernel
theorem d_R_copy_57 : decode prog_1_method_32_code 57 = .ok (.getfield 255, 3) := by decide +kernel
theorem d_R_copy_60 : decode prog_1_method_32_code 60 = .ok (.aload 7, 2) := by decide +kernel
theorem d_R_copy_62 : decode prog_1_method_32_code 62 = .ok (.getfield 255, 3) := by decide +kernel
theorem d_R_copy_65 : decode prog_1_method_32_code 65 = .ok (.if_icmp .eq 9, 3) := by decide +kernel
theorem d_R_copy_68 : decode prog_1_method_32_code 68 = .ok (.aload_n 0, 1) := by decide +kernel
theorem d_R_copy_69 : decode prog_1_method_32_code 69 = .ok (.iconst 4, 1) := by decide +kernel
theorem d_R_copy_70 : decode prog_1_method_32_code 70 = .ok (.invokevirtual 126, 3) := by decide +kernel
theorem d_R_copy_73 : decode prog_1_method_32_code 73 = .ok (.ireturn, 1) := by decide +kernel
theorem d_R_copy_74 : decode prog_1_method_32_code 74 = .ok (.aload 6, 2) := by decide +kernel
theorem d_R_copy_76 : decode prog_1_method_32_code 76 = .ok (.iload_n 2, 1) := by decide +kernel
theorem d_R_copy_77 : decode prog_1_method_32_code 77 = .ok (.iload 5, 2) := by decide +kernel
theorem d_R_copy_79 : decode prog_1_method_32_code 79 = .ok (.invokevirtual 258, 3) := by decide +kernel
theorem d_R_copy_82 : decode prog_1_method_32_code 82 = .ok (.ifCond .ne 15, 3) := by decide +kernel
theorem d_R_copy_85 : decode prog_1_method_32_code 85 = .ok (.aload 7, 2) := by decide +kernel
theorem d_R_copy_87 : decode prog_1_method_32_code 87 = .ok (.iload 4, 2) := by decide +kernel
theorem d_R_copy_89 : decode prog_1_method_32_code 89 = .ok (.iload 5, 2) := by decide +kernel
theorem d_R_copy_91 : decode prog_1_method_32_code 91 = .ok (.invokevirtual 258, 3) := by decide +kernel
theorem d_R_copy_94 : decode prog_1_method_32_code 94 = .ok (.ifCond .eq 9, 3) := by decide +kernel
theorem d_R_copy_97 : decode prog_1_method_32_code 97 = .ok (.aload_n 0, 1) := by decide +kernel
theorem d_R_copy_98 : decode prog_1_method_32_code 98 = .ok (.iconst 2, 1) := by decide +kernel
theorem d_R_copy_99 : decode prog_1_method_32_code 99 = .ok (.invokevirtual 126, 3) := by decide +kernel
theorem d_R_copy_102 : decode prog_1_method_32_code 102 = .ok (.ireturn, 1) := by decide +kernel
theorem d_R_copy_103 : decode prog_1_method_32_code 103 = .ok (.aload 6, 2) := by decide +kernel
theorem d_R_copy_105 : decode prog_1_method_32_code 105 = .ok (.getfield 132, 3) := by decide +kernel
theorem d_R_copy_108 : decode prog_1_method_32_code 108 = .ok (.iload_n 2, 1) := by decide +kernel
theorem d_R_copy_109 : decode prog_1_method_32_code 109 = .ok (.aload 7, 2) := by decide +kernel
theorem d_R_copy_111 : decode prog_1_method_32_code 111 = .ok (.getfield 132, 3) := by decide +kernel
theorem d_R_copy_114 : decode prog_1_method_32_code 114 = .ok (.iload 4, 2) := by decide +kernel
theorem d_R_copy_116 : decode prog_1_method_32_code 116 = .ok (.iload 5, 2) := by decide +kernel
theorem d_R_copy_118 : decode prog_1_method_32_code 118 = .ok (.invokestatic 261, 3) := by decide +kernel
theorem d_R_copy_121 : decode prog_1_method_32_code 121 = .ok (.iconst 1, 1) := by decide +kernel
theorem d_R_copy_122 : decode prog_1_method_32_code 122 = .ok (.ireturn, 1) := by decide +kernel
def b_R_copy_103 (c0 c1 c2 : ra_Sp) (Z : ra_R) : ra_K := w_al 6 <| w_gr 10 0 <| w_il 2 <| w_al 7 <| w_gr 10 0 <| w_il 4 <| w_il 5 <| w_cpy <| w_c 1 <| w_ir Z
def b_R_copy_97 (c0 c1 c2 : ra_Sp) (Z : ra_R) : ra_K := w_al 0 <| w_c 2 <| w_cv c1 2 0 <| w_ir Z
def b_R_copy_85 (c0 c1 c2 : ra_Sp) (Z : ra_R) : ra_K := w_al 7 <| w_il 4 <| w_il 5 <| w_cv c2 3 10 <| w_b1 (fun x => x = 0) (b_R_copy_103 c0 c1 c2 Z) (b_R_copy_97 c0 c1 c2 Z)
def b_R_copy_74 (c0 c1 c2 : ra_Sp) (Z : ra_R) : ra_K := w_al 6 <| w_il 2 <| w_il 5 <| w_cv c2 3 10 <| w_b1 (fun x => x = 0) (b_R_copy_85 c0 c1 c2 Z) (b_R_copy_97 c0 c1 c2 Z)
def b_R_copy_68 (c0 c1 c2 : ra_Sp) (Z : ra_R) : ra_K := w_al 0 <| w_c 4 <| w_cv c1 2 0 <| w_ir Z
def b_R_copy_55 (c0 c1 c2 : ra_Sp) (Z : ra_R) : ra_K := w_al 6 <| w_gi 10 2 <| w_al 7 <| w_gi 10 2 <| w_b2 (fun x y => x = y) (b_R_copy_74 c0 c1 c2 Z) (b_R_copy_68 c0 c1 c2 Z)
def b_R_copy_49 (c0 c1 c2 : ra_Sp) (Z : ra_R) : ra_K := w_al 0 <| w_c 1 <| w_cv c1 2 0 <| w_ir Z
def b_R_copy_41 (c0 c1 c2 : ra_Sp) (Z : ra_R) : ra_K := w_al 7 <| w_gi 10 1 <| w_b1 (fun x => x = 0) (b_R_copy_55 c0 c1 c2 Z) (b_R_copy_49 c0 c1 c2 Z)
def b_R_copy_17 (c0 c1 c2 : ra_Sp) (Z : ra_R) : ra_K := w_al 0 <| w_gr 0 8 <| w_il 1 <| w_rld 3 <| w_as 6 <| w_al 0 <| w_gr 0 8 <| w_il 3 <| w_rld 3 <| w_as 7 <| w_al 6 <| w_gi 10 1 <| w_b1 (fun x => x = 0) (b_R_copy_41 c0 c1 c2 Z) (b_R_copy_49 c0 c1 c2 Z)
def b_R_copy_14 (c0 c1 c2 : ra_Sp) (Z : ra_R) : ra_K := w_c (-2) <| w_ir Z
def b_R_copy_7 (c0 c1 c2 : ra_Sp) (Z : ra_R) : ra_K := w_il 3 <| w_cs c0 1 <| w_b1 (fun x => x = 0) (b_R_copy_17 c0 c1 c2 Z) (b_R_copy_14 c0 c1 c2 Z)
def b_R_copy_0 (c0 c1 c2 : ra_Sp) (Z : ra_R) : ra_K := w_il 1 <| w_cs c0 1 <| w_b1 (fun x => x = 0) (b_R_copy_7 c0 c1 c2 Z) (b_R_copy_14 c0 c1 c2 Z)
theorem o_R_copy_103 {X : ra_X} {p : Program} {l : Launch} {e : Env} {s : State} {m : MethodId} {args : Array Value} {below : List Frame} {meth : Method} {c : Code} {Z : ra_R} {c0 c1 c2 : ra_Sp}  (h0 : ra_MOK l X mi_R_isNoSheet c0) (h1 : ra_MOK l X mi_R_find c1) (h2 : ra_MOK l X mi_Sh_lacks c2) (F : ra_Fx X p rm_R_copy s m args c prog_1_method_32_code 8 cn_R) (hr : meth.sig.returnType = (some .int)) (hlk : meth.locks = false) : ra_At X p l e rm_R_copy s m args below meth c 8 (MQ below (ra_Qc X Z) args s 0 0 (ra_A X)) (b_R_copy_103 c0 c1 c2 Z) 103 :=
  r_aload F d_R_copy_103 <| r_getR F cg_Sh (j := 0) (by decide) rfl fl_R_132 d_R_copy_105 <| r_iload_n F d_R_copy_108 rfl <| r_aload F d_R_copy_109 <| r_getR F cg_Sh (j := 0) (by decide) rfl fl_R_132 d_R_copy_111 <| r_iload F d_R_copy_114 <| r_iload F d_R_copy_116 <| r_acopy F ml_R_261 jw_cpy1 jw_cpy2 jw_sys d_R_copy_118 <| r_iconst F d_R_copy_121 (by decide) <| r_ireturn F hr hlk d_R_copy_122
theorem o_R_copy_97 {X : ra_X} {p : Program} {l : Launch} {e : Env} {s : State} {m : MethodId} {args : Array Value} {below : List Frame} {meth : Method} {c : Code} {Z : ra_R} {c0 c1 c2 : ra_Sp}  (h0 : ra_MOK l X mi_R_isNoSheet c0) (h1 : ra_MOK l X mi_R_find c1) (h2 : ra_MOK l X mi_Sh_lacks c2) (F : ra_Fx X p rm_R_copy s m args c prog_1_method_32_code 8 cn_R) (hr : meth.sig.returnType = (some .int)) (hlk : meth.locks = false) : ra_At X p l e rm_R_copy s m args below meth c 8 (MQ below (ra_Qc X Z) args s 0 0 (ra_A X)) (b_R_copy_97 c0 c1 c2 Z) 97 :=
  r_aload_n F d_R_copy_97 rfl <| r_iconst F d_R_copy_98 (by decide) <| r_callV F h1 (co_R_find (by decide +kernel) (by decide +kernel)) ⟨rfl, by decide +kernel⟩ ⟨rfl, by decide⟩ ml_R_126 im_R_find se_R_find d_R_copy_99 <| r_ireturn F hr hlk d_R_copy_102
theorem o_R_copy_85 {X : ra_X} {p : Program} {l : Launch} {e : Env} {s : State} {m : MethodId} {args : Array Value} {below : List Frame} {meth : Method} {c : Code} {Z : ra_R} {c0 c1 c2 : ra_Sp}  (h0 : ra_MOK l X mi_R_isNoSheet c0) (h1 : ra_MOK l X mi_R_find c1) (h2 : ra_MOK l X mi_Sh_lacks c2) (F : ra_Fx X p rm_R_copy s m args c prog_1_method_32_code 8 cn_R) (hr : meth.sig.returnType = (some .int)) (hlk : meth.locks = false) : ra_At X p l e rm_R_copy s m args below meth c 8 (MQ below (ra_Qc X Z) args s 0 0 (ra_A X)) (b_R_copy_85 c0 c1 c2 Z) 85 :=
  r_aload F d_R_copy_85 <| r_iload F d_R_copy_87 <| r_iload F d_R_copy_89 <| r_callV F h2 (co_Sh_lacks (by decide +kernel) (by decide +kernel)) ⟨rfl, by decide +kernel⟩ ⟨rfl, by decide⟩ ml_R_258 im_Sh_lacks se_Sh_lacks d_R_copy_91 <| r_if_eq F d_R_copy_94 (by decide) (o_R_copy_103 h0 h1 h2 F hr hlk) (o_R_copy_97 h0 h1 h2 F hr hlk)
theorem o_R_copy_74 {X : ra_X} {p : Program} {l : Launch} {e : Env} {s : State} {m : MethodId} {args : Array Value} {below : List Frame} {meth : Method} {c : Code} {Z : ra_R} {c0 c1 c2 : ra_Sp}  (h0 : ra_MOK l X mi_R_isNoSheet c0) (h1 : ra_MOK l X mi_R_find c1) (h2 : ra_MOK l X mi_Sh_lacks c2) (F : ra_Fx X p rm_R_copy s m args c prog_1_method_32_code 8 cn_R) (hr : meth.sig.returnType = (some .int)) (hlk : meth.locks = false) : ra_At X p l e rm_R_copy s m args below meth c 8 (MQ below (ra_Qc X Z) args s 0 0 (ra_A X)) (b_R_copy_74 c0 c1 c2 Z) 74 :=
  r_aload F d_R_copy_74 <| r_iload_n F d_R_copy_76 rfl <| r_iload F d_R_copy_77 <| r_callV F h2 (co_Sh_lacks (by decide +kernel) (by decide +kernel)) ⟨rfl, by decide +kernel⟩ ⟨rfl, by decide⟩ ml_R_258 im_Sh_lacks se_Sh_lacks d_R_copy_79 <| r_if_ne F d_R_copy_82 (by decide) (o_R_copy_97 h0 h1 h2 F hr hlk) (o_R_copy_85 h0 h1 h2 F hr hlk)
theorem o_R_copy_68 {X : ra_X} {p : Program} {l : Launch} {e : Env} {s : State} {m : MethodId} {args : Array Value} {below : List Frame} {meth : Method} {c : Code} {Z : ra_R} {c0 c1 c2 : ra_Sp}  (h0 : ra_MOK l X mi_R_isNoSheet c0) (h1 : ra_MOK l X mi_R_find c1) (h2 : ra_MOK l X mi_Sh_lacks c2) (F : ra_Fx X p rm_R_copy s m args c prog_1_method_32_code 8 cn_R) (hr : meth.sig.returnType = (some .int)) (hlk : meth.locks = false) : ra_At X p l e rm_R_copy s m args below meth c 8 (MQ below (ra_Qc X Z) args s 0 0 (ra_A X)) (b_R_copy_68 c0 c1 c2 Z) 68 :=
  r_aload_n F d_R_copy_68 rfl <| r_iconst F d_R_copy_69 (by decide) <| r_callV F h1 (co_R_find (by decide +kernel) (by decide +kernel)) ⟨rfl, by decide +kernel⟩ ⟨rfl, by decide⟩ ml_R_126 im_R_find se_R_find d_R_copy_70 <| r_ireturn F hr hlk d_R_copy_73
theorem o_R_copy_55 {X : ra_X} {p : Program} {l : Launch} {e : Env} {s : State} {m : MethodId} {args : Array Value} {below : List Frame} {meth : Method} {c : Code} {Z : ra_R} {c0 c1 c2 : ra_Sp}  (h0 : ra_MOK l X mi_R_isNoSheet c0) (h1 : ra_MOK l X mi_R_find c1) (h2 : ra_MOK l X mi_Sh_lacks c2) (F : ra_Fx X p rm_R_copy s m args c prog_1_method_32_code 8 cn_R) (hr : meth.sig.returnType = (some .int)) (hlk : meth.locks = false) : ra_At X p l e rm_R_copy s m args below meth c 8 (MQ below (ra_Qc X Z) args s 0 0 (ra_A X)) (b_R_copy_55 c0 c1 c2 Z) 55 :=
  r_aload F d_R_copy_55 <| r_getI F cg_Sh (j := 2) (by decide) rfl fl_R_255 d_R_copy_57 <| r_aload F d_R_copy_60 <| r_getI F cg_Sh (j := 2) (by decide) rfl fl_R_255 d_R_copy_62 <| r_icmp_eq F d_R_copy_65 (by decide) (o_R_copy_74 h0 h1 h2 F hr hlk) (o_R_copy_68 h0 h1 h2 F hr hlk)
theorem o_R_copy_49 {X : ra_X} {p : Program} {l : Launch} {e : Env} {s : State} {m : MethodId} {args : Array Value} {below : List Frame} {meth : Method} {c : Code} {Z : ra_R} {c0 c1 c2 : ra_Sp}  (h0 : ra_MOK l X mi_R_isNoSheet c0) (h1 : ra_MOK l X mi_R_find c1) (h2 : ra_MOK l X mi_Sh_lacks c2) (F : ra_Fx X p rm_R_copy s m args c prog_1_method_32_code 8 cn_R) (hr : meth.sig.returnType = (some .int)) (hlk : meth.locks = false) : ra_At X p l e rm_R_copy s m args below meth c 8 (MQ below (ra_Qc X Z) args s 0 0 (ra_A X)) (b_R_copy_49 c0 c1 c2 Z) 49 :=
  r_aload_n F d_R_copy_49 rfl <| r_iconst F d_R_copy_50 (by decide) <| r_callV F h1 (co_R_find (by decide +kernel) (by decide +kernel)) ⟨rfl, by decide +kernel⟩ ⟨rfl, by decide⟩ ml_R_126 im_R_find se_R_find d_R_copy_51 <| r_ireturn F hr hlk d_R_copy_54
theorem o_R_copy_41 {X : ra_X} {p : Program} {l : Launch} {e : Env} {s : State} {m : MethodId} {args : Array Value} {below : List Frame} {meth : Method} {c : Code} {Z : ra_R} {c0 c1 c2 : ra_Sp}  (h0 : ra_MOK l X mi_R_isNoSheet c0) (h1 : ra_MOK l X mi_R_find c1) (h2 : ra_MOK l X mi_Sh_lacks c2) (F : ra_Fx X p rm_R_copy s m args c prog_1_method_32_code 8 cn_R) (hr : meth.sig.returnType = (some .int)) (hlk : meth.locks = false) : ra_At X p l e rm_R_copy s m args below meth c 8 (MQ below (ra_Qc X Z) args s 0 0 (ra_A X)) (b_R_copy_41 c0 c1 c2 Z) 41 :=
  r_aload F d_R_copy_41 <| r_getI F cg_Sh (j := 1) (by decide) rfl fl_R_122 d_R_copy_43 <| r_if_eq F d_R_copy_46 (by decide) (o_R_copy_55 h0 h1 h2 F hr hlk) (o_R_copy_49 h0 h1 h2 F hr hlk)
theorem o_R_copy_17 {X : ra_X} {p : Program} {l : Launch} {e : Env} {s : State} {m : MethodId} {args : Array Value} {below : List Frame} {meth : Method} {c : Code} {Z : ra_R} {c0 c1 c2 : ra_Sp}  (h0 : ra_MOK l X mi_R_isNoSheet c0) (h1 : ra_MOK l X mi_R_find c1) (h2 : ra_MOK l X mi_Sh_lacks c2) (F : ra_Fx X p rm_R_copy s m args c prog_1_method_32_code 8 cn_R) (hr : meth.sig.returnType = (some .int)) (hlk : meth.locks = false) : ra_At X p l e rm_R_copy s m args below meth c 8 (MQ below (ra_Qc X Z) args s 0 0 (ra_A X)) (b_R_copy_17 c0 c1 c2 Z) 17 :=
  r_aload_n F d_R_copy_17 rfl <| r_getR F cg_R (j := 8) (by decide) rfl fl_R_68 d_R_copy_18 <| r_iload_n F d_R_copy_21 rfl <| r_aaloadS F d_R_copy_22 <| r_astore F d_R_copy_23 (by decide) <| r_aload_n F d_R_copy_25 rfl <| r_getR F cg_R (j := 8) (by decide) rfl fl_R_68 d_R_copy_26 <| r_iload_n F d_R_copy_29 rfl <| r_aaloadS F d_R_copy_30 <| r_astore F d_R_copy_31 (by decide) <| r_aload F d_R_copy_33 <| r_getI F cg_Sh (j := 1) (by decide) rfl fl_R_122 d_R_copy_35 <| r_if_ne F d_R_copy_38 (by decide) (o_R_copy_49 h0 h1 h2 F hr hlk) (o_R_copy_41 h0 h1 h2 F hr hlk)
theorem o_R_copy_14 {X : ra_X} {p : Program} {l : Launch} {e : Env} {s : State} {m : MethodId} {args : Array Value} {below : List Frame} {meth : Method} {c : Code} {Z : ra_R} {c0 c1 c2 : ra_Sp}  (h0 : ra_MOK l X mi_R_isNoSheet c0) (h1 : ra_MOK l X mi_R_find c1) (h2 : ra_MOK l X mi_Sh_lacks c2) (F : ra_Fx X p rm_R_copy s m args c prog_1_method_32_code 8 cn_R) (hr : meth.sig.returnType = (some .int)) (hlk : meth.locks = false) : ra_At X p l e rm_R_copy s m args below meth c 8 (MQ below (ra_Qc X Z) args s 0 0 (ra_A X)) (b_R_copy_14 c0 c1 c2 Z) 14 :=
  r_bipush F d_R_copy_14 (by decide) <| r_ireturn F hr hlk d_R_copy_16
theorem o_R_copy_7 {X : ra_X} {p : Program} {l : Launch} {e : Env} {s : State} {m : MethodId} {args : Array Value} {below : List Frame} {meth : Method} {c : Code} {Z : ra_R} {c0 c1 c2 : ra_Sp}  (h0 : ra_MOK l X mi_R_isNoSheet c0) (h1 : ra_MOK l X mi_R_find c1) (h2 : ra_MOK l X mi_Sh_lacks c2) (F : ra_Fx X p rm_R_copy s m args c prog_1_method_32_code 8 cn_R) (hr : meth.sig.returnType = (some .int)) (hlk : meth.locks = false) : ra_At X p l e rm_R_copy s m args below meth c 8 (MQ below (ra_Qc X Z) args s 0 0 (ra_A X)) (b_R_copy_7 c0 c1 c2 Z) 7 :=
  r_iload_n F d_R_copy_7 rfl <| r_callS F h0 (co_R_isNoSheet (by decide +kernel) (by decide +kernel)) ⟨rfl, by decide +kernel⟩ ml_R_119 st_R_isNoSheet d_R_copy_8 <| r_if_eq F d_R_copy_11 (by decide) (o_R_copy_17 h0 h1 h2 F hr hlk) (o_R_copy_14 h0 h1 h2 F hr hlk)
theorem o_R_copy_0 {X : ra_X} {p : Program} {l : Launch} {e : Env} {s : State} {m : MethodId} {args : Array Value} {below : List Frame} {meth : Method} {c : Code} {Z : ra_R} {c0 c1 c2 : ra_Sp}  (h0 : ra_MOK l X mi_R_isNoSheet c0) (h1 : ra_MOK l X mi_R_find c1) (h2 : ra_MOK l X mi_Sh_lacks c2) (F : ra_Fx X p rm_R_copy s m args c prog_1_method_32_code 8 cn_R) (hr : meth.sig.returnType = (some .int)) (hlk : meth.locks = false) : ra_At X p l e rm_R_copy s m args below meth c 8 (MQ below (ra_Qc X Z) args s 0 0 (ra_A X)) (b_R_copy_0 c0 c1 c2 Z) 0 :=
  r_iload_n F d_R_copy_0 rfl <| r_callS F h0 (co_R_isNoSheet (by decide +kernel) (by decide +kernel)) ⟨rfl, by decide +kernel⟩ ml_R_119 st_R_isNoSheet d_R_copy_1 <| r_if_ne F d_R_copy_4 (by decide) (o_R_copy_14 h0 h1 h2 F hr hlk) (o_R_copy_7 h0 h1 h2 F hr hlk)
theorem g_R_copy {l : Launch} {X : ra_X} {c0 c1 c2 : ra_Sp}  (h0 : ra_MOK l X mi_R_isNoSheet c0) (h1 : ra_MOK l X mi_R_find c1) (h2 : ra_MOK l X mi_Sh_lacks c2) (sp : ra_Sp) (ve : ∀ as σ Z, ra_c1 as = true → as.length = 6 → sp as σ Z → b_R_copy_0 c0 c1 c2 Z (ra_pad 8 as) [] σ) : ra_MOK l X mi_R_copy sp := by
  refine ra_enter (k := fun Z as σ => b_R_copy_0 c0 c1 c2 Z) cn_R rfl (by decide +kernel) ⟨by decide +kernel, by decide +kernel⟩ (by decide +kernel) ?_ ve
  intro p e s m args below meth c Z as σ hsp F hr hlk
  exact o_R_copy_0 h0 h1 h2 F hr hlk

theorem d_R_write_0 : decode prog_1_method_33_code 0 = .ok (.iload_n 1, 1) := by decide +kernel
theorem d_R_write_1 : decode prog_1_method_33_code 1 = .ok (.invokestatic 119, 3) := by decide +kernel
theorem d_R_write_4 : decode prog_1_method_33_code 4 = .ok (.ifCond .eq 6, 3) := by decide +kernel
theorem d_R_write_7 : decode prog_1_method_33_code 7 = .ok (.bipush (-2), 2) := by decide +kernel
theorem d_R_write_9 : decode prog_1_method_33_code 9 = .ok (.ireturn, 1) := by decide +kernel
theorem d_R_write_10 : decode prog_1_method_33_code 10 = .ok (.aload_n 0, 1) := by decide +kernel
theorem d_R_write_11 : decode prog_1_method_33_code 11 = .ok (.getfield 68, 3) := by decide +kernel
theorem d_R_write_14 : decode prog_1_method_33_code 14 = .ok (.iload_n 1, 1) := by decide +kernel
theorem d_R_write_15 : decode prog_1_method_33_code 15 = .ok (.aaload, 1) := by decide +kernel
theorem d_R_write_16 : decode prog_1_method_33_code 16 = .ok (.astore_n 2, 1) := by decide +kernel
theorem d_R_write_17 : decode prog_1_method_33_code 17 = .ok (.aload_n 2, 1) := by decide +kernel
theorem d_R_write_18 : decode prog_1_method_33_code 18 = .ok (.getfield 122, 3) := by decide +kernel
theorem d_R_write_21 : decode prog_1_method_33_code 21 = .ok (.ifCond .eq 9, 3) := by decide +kernel
theorem d_R_write_24 : decode prog_1_method_33_code 24 = .ok (.aload_n 0, 1) := by decide +kernel
theorem d_R_write_25 : decode prog_1_method_33_code 25 = .ok (.iconst 1, 1) := by decide +kernel
theorem d_R_write_26 : decode prog_1_method_33_code 26 = .ok (.invokevirtual 126, 3) := by decide +kernel
theorem d_R_write_29 : decode prog_1_method_33_code 29 = .ok (.ireturn, 1) := by decide +kernel
theorem d_R_write_30 : decode prog_1_method_33_code 30 = .ok (.aload_n 2, 1) := by decide +kernel
theorem d_R_write_31 : decode prog_1_method_33_code 31 = .ok (.getfield 129, 3) := by decide +kernel
theorem d_R_write_34 : decode prog_1_method_33_code 34 = .ok (.aload_n 0, 1) := by decide +kernel
theorem d_R_write_35 : decode prog_1_method_33_code 35 = .ok (.getfield 12, 3) := by decide +kernel
theorem d_R_write_38 : decode prog_1_method_33_code 38 = .ok (.getfield 152, 3) := by decide +kernel
theorem d_R_write_41 : decode prog_1_method_33_code 41 = .ok (.invokestatic 267, 3) := by decide +kernel
theorem d_R_write_44 : decode prog_1_method_33_code 44 = .ok (.istore_n 3, 1) := by decide +kernel
theorem d_R_write_45 : decode prog_1_method_33_code 45 = .ok (.iconst 0, 1) := by decide +kernel
theorem d_R_write_46 : decode prog_1_method_33_code 46 = .ok (.istore 4, 2) := by decide +kernel
theorem d_R_write_48 : decode prog_1_method_33_code 48 = .ok (.iload 4, 2) := by decide +kernel
theorem d_R_write_50 : decode prog_1_method_33_code 50 = .ok (.iload_n 3, 1) := by decide +kernel
theorem d_R_write_51 : decode prog_1_method_33_code 51 = .ok (.if_icmp .ge 29, 3) := by decide +kernel
theorem d_R_write_54 : decode prog_1_method_33_code 54 = .ok (.aload_n 2, 1) := by decide +kernel
theorem d_R_write_55 : decode prog_1_method_33_code 55 = .ok (.iload 4, 2) := by decide +kernel
theorem d_R_write_57 : decode prog_1_method_33_code 57 = .ok (.aload_n 0, 1) := by decide +kernel
theorem d_R_write_58 : decode prog_1_method_33_code 58 = .ok (.iconst 2, 1) := by decide +kernel
theorem d_R_write_59 : decode prog_1_method_33_code 59 = .ok (.iload 4, 2) := by decide +kernel
theorem d_R_write_61 : decode prog_1_method_33_code 61 = .ok (.aload_n 0, 1) := by decide +kernel
theorem d_R_write_62 : decode prog_1_method_33_code 62 = .ok (.getfield 19, 3) := by decide +kernel
theorem d_R_write_65 : decode prog_1_method_33_code 65 = .ok (.getfield 149, 3) := by decide +kernel
theorem d_R_write_68 : decode prog_1_method_33_code 68 = .ok (.invokevirtual 145, 3) := by decide +kernel
theorem d_R_write_71 : decode prog_1_method_33_code 71 = .ok (.invokevirtual 248, 3) := by decide +kernel
theorem d_R_write_74 : decode prog_1_method_33_code 74 = .ok (.iinc 4 1, 3) := by decide +kernel
theorem d_R_write_77 : decode prog_1_method_33_code 77 = .ok (.goto (-29), 3) := by decide +kernel
theorem d_R_write_80 : decode prog_1_method_33_code 80 = .ok (.iload_n 3, 1) := by decide +kernel
theorem d_R_write_81 : decode prog_1_method_33_code 81 = .ok (.ireturn, 1) := by decide +kernel
def b_R_write_80 (c0 c1 c2 c3 : ra_Sp) (I : Nat → ra_K) (Z : ra_R) : ra_K := w_il 3 <| w_ir Z
def b_R_write_54 (c0 c1 c2 c3 : ra_Sp) (I : Nat → ra_K) (Z : ra_R) : ra_K := w_al 2 <| w_il 4 <| w_al 0 <| w_c 2 <| w_il 4 <| w_al 0 <| w_gr 0 1 <| w_gi 3 1 <| w_cv c2 4 0 <| w_cv c3 3 10 <| w_inc 4 1 <| (I 48)
def b_R_write_48 (c0 c1 c2 c3 : ra_Sp) (I : Nat → ra_K) (Z : ra_R) : ra_K := w_il 4 <| w_il 3 <| w_b2 (fun x y => y ≤ x) (b_R_write_80 c0 c1 c2 c3 I Z) (b_R_write_54 c0 c1 c2 c3 I Z)
def b_R_write_30 (c0 c1 c2 c3 : ra_Sp) (I : Nat → ra_K) (Z : ra_R) : ra_K := w_al 2 <| w_gi 10 3 <| w_al 0 <| w_gr 0 0 <| w_gi 1 8 <| w_min <| w_is 3 <| w_c 0 <| w_is 4 <| (I 48)
def b_R_write_24 (c0 c1 c2 c3 : ra_Sp) (I : Nat → ra_K) (Z : ra_R) : ra_K := w_al 0 <| w_c 1 <| w_cv c1 2 0 <| w_ir Z
def b_R_write_10 (c0 c1 c2 c3 : ra_Sp) (I : Nat → ra_K) (Z : ra_R) : ra_K := w_al 0 <| w_gr 0 8 <| w_il 1 <| w_rld 3 <| w_as 2 <| w_al 2 <| w_gi 10 1 <| w_b1 (fun x => x = 0) (b_R_write_30 c0 c1 c2 c3 I Z) (b_R_write_24 c0 c1 c2 c3 I Z)
def b_R_write_7 (c0 c1 c2 c3 : ra_Sp) (I : Nat → ra_K) (Z : ra_R) : ra_K := w_c (-2) <| w_ir Z
def b_R_write_0 (c0 c1 c2 c3 : ra_Sp) (I : Nat → ra_K) (Z : ra_R) : ra_K := w_il 1 <| w_cs c0 1 <| w_b1 (fun x => x = 0) (b_R_write_10 c0 c1 c2 c3 I Z) (b_R_write_7 c0 c1 c2 c3 I Z)
theorem o_R_write_80 {X : ra_X} {p : Program} {l : Launch} {e : Env} {s : State} {m : MethodId} {args : Array Value} {below : List Frame} {meth : Method} {c : Code} {Z : ra_R} {c0 c1 c2 c3 : ra_Sp}  (h0 : ra_MOK l X mi_R_isNoSheet c0) (h1 : ra_MOK l X mi_R_find c1) (h2 : ra_MOK l X mi_R_behind c2) (h3 : ra_MOK l X mi_Sh_store c3) (F : ra_Fx X p rm_R_write s m args c prog_1_method_33_code 5 cn_R) (hr : meth.sig.returnType = (some .int)) (hlk : meth.locks = false) {I : Nat → ra_K} (hI : ∀ t ∈ [48], ra_At X p l e rm_R_write s m args below meth c 5 (MQ below (ra_Qc X Z) args s 0 0 (ra_A X)) (I t) t) : ra_At X p l e rm_R_write s m args below meth c 5 (MQ below (ra_Qc X Z) args s 0 0 (ra_A X)) (b_R_write_80 c0 c1 c2 c3 I Z) 80 :=
  r_iload_n F d_R_write_80 rfl <| r_ireturn F hr hlk d_R_write_81
theorem o_R_write_54 {X : ra_X} {p : Program} {l : Launch} {e : Env} {s : State} {m : MethodId} {args : Array Value} {below : List Frame} {meth : Method} {c : Code} {Z : ra_R} {c0 c1 c2 c3 : ra_Sp}  (h0 : ra_MOK l X mi_R_isNoSheet c0) (h1 : ra_MOK l X mi_R_find c1) (h2 : ra_MOK l X mi_R_behind c2) (h3 : ra_MOK l X mi_Sh_store c3) (F : ra_Fx X p rm_R_write s m args c prog_1_method_33_code 5 cn_R) (hr : meth.sig.returnType = (some .int)) (hlk : meth.locks = false) {I : Nat → ra_K} (hI : ∀ t ∈ [48], ra_At X p l e rm_R_write s m args below meth c 5 (MQ below (ra_Qc X Z) args s 0 0 (ra_A X)) (I t) t) : ra_At X p l e rm_R_write s m args below meth c 5 (MQ below (ra_Qc X Z) args s 0 0 (ra_A X)) (b_R_write_54 c0 c1 c2 c3 I Z) 54 :=
  r_aload_n F d_R_write_54 rfl <| r_iload F d_R_write_55 <| r_aload_n F d_R_write_57 rfl <| r_iconst F d_R_write_58 (by decide) <| r_iload F d_R_write_59 <| r_aload_n F d_R_write_61 rfl <| r_getR F cg_R (j := 1) (by decide) rfl fl_R_19 d_R_write_62 <| r_getI F cg_Wt (j := 1) (by decide) rfl fl_R_149 d_R_write_65 <| r_callV F h2 (co_R_behind (by decide +kernel) (by decide +kernel)) ⟨rfl, by decide +kernel⟩ ⟨rfl, by decide⟩ ml_R_145 im_R_behind se_R_behind d_R_write_68 <| r_callV F h3 (co_Sh_store (by decide +kernel) (by decide +kernel)) ⟨rfl, by decide +kernel⟩ ⟨rfl, by decide⟩ ml_R_248 im_Sh_store se_Sh_store d_R_write_71 <| r_iinc F d_R_write_74 (by decide) (by decide) <| r_goto F d_R_write_77 (by decide) (hI 48 (by decide))
theorem o_R_write_48 {X : ra_X} {p : Program} {l : Launch} {e : Env} {s : State} {m : MethodId} {args : Array Value} {below : List Frame} {meth : Method} {c : Code} {Z : ra_R} {c0 c1 c2 c3 : ra_Sp}  (h0 : ra_MOK l X mi_R_isNoSheet c0) (h1 : ra_MOK l X mi_R_find c1) (h2 : ra_MOK l X mi_R_behind c2) (h3 : ra_MOK l X mi_Sh_store c3) (F : ra_Fx X p rm_R_write s m args c prog_1_method_33_code 5 cn_R) (hr : meth.sig.returnType = (some .int)) (hlk : meth.locks = false) {I : Nat → ra_K} (hI : ∀ t ∈ [48], ra_At X p l e rm_R_write s m args below meth c 5 (MQ below (ra_Qc X Z) args s 0 0 (ra_A X)) (I t) t) : ra_At X p l e rm_R_write s m args below meth c 5 (MQ below (ra_Qc X Z) args s 0 0 (ra_A X)) (b_R_write_48 c0 c1 c2 c3 I Z) 48 :=
  r_iload F d_R_write_48 <| r_iload_n F d_R_write_50 rfl <| r_icmp_ge F d_R_write_51 (by decide) (o_R_write_80 h0 h1 h2 h3 F hr hlk hI) (o_R_write_54 h0 h1 h2 h3 F hr hlk hI)
theorem o_R_write_30 {X : ra_X} {p : Program} {l : Launch} {e : Env} {s : State} {m : MethodId} {args : Array Value} {below : List Frame} {meth : Method} {c : Code} {Z : ra_R} {c0 c1 c2 c3 : ra_Sp}  (h0 : ra_MOK l X mi_R_isNoSheet c0) (h1 : ra_MOK l X mi_R_find c1) (h2 : ra_MOK l X mi_R_behind c2) (h3 : ra_MOK l X mi_Sh_store c3) (F : ra_Fx X p rm_R_write s m args c prog_1_method_33_code 5 cn_R) (hr : meth.sig.returnType = (some .int)) (hlk : meth.locks = false) {I : Nat → ra_K} (hI : ∀ t ∈ [48], ra_At X p l e rm_R_write s m args below meth c 5 (MQ below (ra_Qc X Z) args s 0 0 (ra_A X)) (I t) t) : ra_At X p l e rm_R_write s m args below meth c 5 (MQ below (ra_Qc X Z) args s 0 0 (ra_A X)) (b_R_write_30 c0 c1 c2 c3 I Z) 30 :=
  r_aload_n F d_R_write_30 rfl <| r_getI F cg_Sh (j := 3) (by decide) rfl fl_R_129 d_R_write_31 <| r_aload_n F d_R_write_34 rfl <| r_getR F cg_R (j := 0) (by decide) rfl fl_R_12 d_R_write_35 <| r_getI F cg_V (j := 8) (by decide) rfl fl_R_152 d_R_write_38 <| r_min F ml_R_267 jw_min1 jw_math jw_min3 d_R_write_41 <| r_istore_n F d_R_write_44 rfl (by decide) <| r_iconst F d_R_write_45 (by decide) <| r_istore F d_R_write_46 (by decide) <| (hI 48 (by decide))
theorem o_R_write_24 {X : ra_X} {p : Program} {l : Launch} {e : Env} {s : State} {m : MethodId} {args : Array Value} {below : List Frame} {meth : Method} {c : Code} {Z : ra_R} {c0 c1 c2 c3 : ra_Sp}  (h0 : ra_MOK l X mi_R_isNoSheet c0) (h1 : ra_MOK l X mi_R_find c1) (h2 : ra_MOK l X mi_R_behind c2) (h3 : ra_MOK l X mi_Sh_store c3) (F : ra_Fx X p rm_R_write s m args c prog_1_method_33_code 5 cn_R) (hr : meth.sig.returnType = (some .int)) (hlk : meth.locks = false) {I : Nat → ra_K} (hI : ∀ t ∈ [48], ra_At X p l e rm_R_write s m args below meth c 5 (MQ below (ra_Qc X Z) args s 0 0 (ra_A X)) (I t) t) : ra_At X p l e rm_R_write s m args below meth c 5 (MQ below (ra_Qc X Z) args s 0 0 (ra_A X)) (b_R_write_24 c0 c1 c2 c3 I Z) 24 :=
  r_aload_n F d_R_write_24 rfl <| r_iconst F d_R_write_25 (by decide) <| r_callV F h1 (co_R_find (by decide +kernel) (by decide +kernel)) ⟨rfl, by decide +kernel⟩ ⟨rfl, by decide⟩ ml_R_126 im_R_find se_R_find d_R_write_26 <| r_ireturn F hr hlk d_R_write_29
theorem o_R_write_10 {X : ra_X} {p : Program} {l : Launch} {e : Env} {s : State} {m : MethodId} {args : Array Value} {below : List Frame} {meth : Method} {c : Code} {Z : ra_R} {c0 c1 c2 c3 : ra_Sp}  (h0 : ra_MOK l X mi_R_isNoSheet c0) (h1 : ra_MOK l X mi_R_find c1) (h2 : ra_MOK l X mi_R_behind c2) (h3 : ra_MOK l X mi_Sh_store c3) (F : ra_Fx X p rm_R_write s m args c prog_1_method_33_code 5 cn_R) (hr : meth.sig.returnType = (some .int)) (hlk : meth.locks = false) {I : Nat → ra_K} (hI : ∀ t ∈ [48], ra_At X p l e rm_R_write s m args below meth c 5 (MQ below (ra_Qc X Z) args s 0 0 (ra_A X)) (I t) t) : ra_At X p l e rm_R_write s m args below meth c 5 (MQ below (ra_Qc X Z) args s 0 0 (ra_A X)) (b_R_write_10 c0 c1 c2 c3 I Z) 10 :=
  r_aload_n F d_R_write_10 rfl <| r_getR F cg_R (j := 8) (by decide) rfl fl_R_68 d_R_write_11 <| r_iload_n F d_R_write_14 rfl <| r_aaloadS F d_R_write_15 <| r_astore_n F d_R_write_16 rfl (by decide) <| r_aload_n F d_R_write_17 rfl <| r_getI F cg_Sh (j := 1) (by decide) rfl fl_R_122 d_R_write_18 <| r_if_eq F d_R_write_21 (by decide) (o_R_write_30 h0 h1 h2 h3 F hr hlk hI) (o_R_write_24 h0 h1 h2 h3 F hr hlk hI)
theorem o_R_write_7 {X : ra_X} {p : Program} {l : Launch} {e : Env} {s : State} {m : MethodId} {args : Array Value} {below : List Frame} {meth : Method} {c : Code} {Z : ra_R} {c0 c1 c2 c3 : ra_Sp}  (h0 : ra_MOK l X mi_R_isNoSheet c0) (h1 : ra_MOK l X mi_R_find c1) (h2 : ra_MOK l X mi_R_behind c2) (h3 : ra_MOK l X mi_Sh_store c3) (F : ra_Fx X p rm_R_write s m args c prog_1_method_33_code 5 cn_R) (hr : meth.sig.returnType = (some .int)) (hlk : meth.locks = false) {I : Nat → ra_K} (hI : ∀ t ∈ [48], ra_At X p l e rm_R_write s m args below meth c 5 (MQ below (ra_Qc X Z) args s 0 0 (ra_A X)) (I t) t) : ra_At X p l e rm_R_write s m args below meth c 5 (MQ below (ra_Qc X Z) args s 0 0 (ra_A X)) (b_R_write_7 c0 c1 c2 c3 I Z) 7 :=
  r_bipush F d_R_write_7 (by decide) <| r_ireturn F hr hlk d_R_write_9
theorem o_R_write_0 {X : ra_X} {p : Program} {l : Launch} {e : Env} {s : State} {m : MethodId} {args : Array Value} {below : List Frame} {meth : Method} {c : Code} {Z : ra_R} {c0 c1 c2 c3 : ra_Sp}  (h0 : ra_MOK l X mi_R_isNoSheet c0) (h1 : ra_MOK l X mi_R_find c1) (h2 : ra_MOK l X mi_R_behind c2) (h3 : ra_MOK l X mi_Sh_store c3) (F : ra_Fx X p rm_R_write s m args c prog_1_method_33_code 5 cn_R) (hr : meth.sig.returnType = (some .int)) (hlk : meth.locks = false) {I : Nat → ra_K} (hI : ∀ t ∈ [48], ra_At X p l e rm_R_write s m args below meth c 5 (MQ below (ra_Qc X Z) args s 0 0 (ra_A X)) (I t) t) : ra_At X p l e rm_R_write s m args below meth c 5 (MQ below (ra_Qc X Z) args s 0 0 (ra_A X)) (b_R_write_0 c0 c1 c2 c3 I Z) 0 :=
  r_iload_n F d_R_write_0 rfl <| r_callS F h0 (co_R_isNoSheet (by decide +kernel) (by decide +kernel)) ⟨rfl, by decide +kernel⟩ ml_R_119 st_R_isNoSheet d_R_write_1 <| r_if_eq F d_R_write_4 (by decide) (o_R_write_10 h0 h1 h2 h3 F hr hlk hI) (o_R_write_7 h0 h1 h2 h3 F hr hlk hI)
theorem g_R_write {l : Launch} {X : ra_X} {c0 c1 c2 c3 : ra_Sp}  (h0 : ra_MOK l X mi_R_isNoSheet c0) (h1 : ra_MOK l X mi_R_find c1) (h2 : ra_MOK l X mi_R_behind c2) (h3 : ra_MOK l X mi_Sh_store c3) (sp : ra_Sp) (I : ra_R → List Value → ra_St → Nat → ra_M → ra_K) (ve : ∀ as σ Z, ra_c1 as = true → as.length = 2 → sp as σ Z → b_R_write_0 c0 c1 c2 c3 (ra_I (I Z as σ)) Z (ra_pad 5 as) [] σ) (v48 : ∀ as σ Z, sp as σ Z → ∀ μ L S σ1, I Z as σ 48 μ L S σ1 → b_R_write_48 c0 c1 c2 c3 (ra_J (I Z as σ) μ) Z L S σ1) : ra_MOK l X mi_R_write sp := by
  refine ra_enter (k := fun Z as σ => b_R_write_0 c0 c1 c2 c3 (ra_I (I Z as σ)) Z) cn_R rfl (by decide +kernel) ⟨by decide +kernel, by decide +kernel⟩ (by decide +kernel) ?_ ve
  intro p e s m args below meth c Z as σ hsp F hr hlk
  refine o_R_write_0 h0 h1 h2 h3 F hr hlk (ra_cuts (b := fun t J => if t = 48 then b_R_write_48 c0 c1 c2 c3 J Z else fun _ _ _ => False) ?_ ?_)
  · intro t ht J hJ
    simp only [List.mem_cons, List.not_mem_nil, or_false] at ht
    rcases ht with rfl
    · exact o_R_write_48 h0 h1 h2 h3 F hr hlk hJ
  · intro t ht μ L S σ1 hI
    simp only [List.mem_cons, List.not_mem_nil, or_false] at ht
    rcases ht with rfl
    · exact v48 as σ Z hsp μ L S σ1 hI

theorem d_V_countRings_0 : decode prog_10_method_5_code 0 = .ok (.iconst 0, 1) := by decide +kernel
theorem d_V_countRings_1 : decode prog_10_method_5_code 1 = .ok (.istore_n 1, 1) := by decide +kernel
theorem d_V_countRings_2 : decode prog_10_method_5_code 2 = .ok (.iconst 0, 1) := by decide +kernel
theorem d_V_countRings_3 : decode prog_10_method_5_code 3 = .ok (.istore_n 2, 1) := by decide +kernel
theorem d_V_countRings_4 : decode prog_10_method_5_code 4 = .ok (.iload_n 2, 1) := by decide +kernel
theorem d_V_countRings_5 : decode prog_10_method_5_code 5 = .ok (.aload_n 0, 1) := by decide +kernel
theorem d_V_countRings_6 : decode prog_10_method_5_code 6 = .ok (.getfield 61, 3) := by decide +kernel
theorem d_V_countRings_9 : decode prog_10_method_5_code 9 = .ok (.if_icmp .ge 32, 3) := by decide +kernel
theorem d_V_countRings_12 : decode prog_10_method_5_code 12 = .ok (.aload_n 0, 1) := by decide +kernel
theorem d_V_countRings_13 : decode prog_10_method_5_code 13 = .ok (.getfield 39, 3) := by decide +kernel
theorem d_V_countRings_16 : decode prog_10_method_5_code 16 = .ok (.iload_n 2, 1) := by decide +kernel
theorem d_V_countRings_17 : decode prog_10_method_5_code 17 = .ok (.iaload, 1) := by decide +kernel
theorem d_V_countRings_18 : decode prog_10_method_5_code 18 = .ok (.aload_n 0, 1) := by decide +kernel
theorem d_V_countRings_19 : decode prog_10_method_5_code 19 = .ok (.getfield 39, 3) := by decide +kernel
theorem d_V_countRings_22 : decode prog_10_method_5_code 22 = .ok (.iload_n 2, 1) := by decide +kernel
theorem d_V_countRings_23 : decode prog_10_method_5_code 23 = .ok (.iaload, 1) := by decide +kernel
theorem d_V_countRings_24 : decode prog_10_method_5_code 24 = .ok (.ineg, 1) := by decide +kernel
theorem d_V_countRings_25 : decode prog_10_method_5_code 25 = .ok (.iand, 1) := by decide +kernel
theorem d_V_countRings_26 : decode prog_10_method_5_code 26 = .ok (.iconst 1, 1) := by decide +kernel
theorem d_V_countRings_27 : decode prog_10_method_5_code 27 = .ok (.iload_n 2, 1) := by decide +kernel
theorem d_V_countRings_28 : decode prog_10_method_5_code 28 = .ok (.ishl, 1) := by decide +kernel
theorem d_V_countRings_29 : decode prog_10_method_5_code 29 = .ok (.if_icmp .ne 6, 3) := by decide +kernel
theorem d_V_countRings_32 : decode prog_10_method_5_code 32 = .ok (.iinc 1 1, 3) := by decide +kernel
theorem d_V_countRings_35 : decode prog_10_method_5_code 35 = .ok (.iinc 2 1, 3) := by decide +kernel
theorem d_V_countRings_38 : decode prog_10_method_5_code 38 = .ok (.goto (-34), 3) := by decide +kernel
theorem d_V_countRings_41 : decode prog_10_method_5_code 41 = .ok (.iload_n 1, 1) := by decide +kernel
theorem d_V_countRings_42 : decode prog_10_method_5_code 42 = .ok (.ireturn, 1) := by decide +kernel
def b_V_countRings_41 (I : Nat → ra_K) (Z : ra_R) : ra_K := w_il 1 <| w_ir Z
def b_V_countRings_35 (I : Nat → ra_K) (Z : ra_R) : ra_K := w_inc 2 1 <| (I 4)
def b_V_countRings_32 (I : Nat → ra_K) (Z : ra_R) : ra_K := w_inc 1 1 <| (b_V_countRings_35 I Z)
def b_V_countRings_12 (I : Nat → ra_K) (Z : ra_R) : ra_K := w_al 0 <| w_gr 1 7 <| w_il 2 <| w_ald <| w_al 0 <| w_gr 1 7 <| w_il 2 <| w_ald <| w_i1 (fun x => -x) <| w_i2 (fun x y => x &&& y) <| w_c 1 <| w_il 2 <| w_i2 (fun x y => x <<< (y &&& 31)) <| w_b2 (fun x y => x = y) (b_V_countRings_32 I Z) (b_V_countRings_35 I Z)
def b_V_countRings_4 (I : Nat → ra_K) (Z : ra_R) : ra_K := w_il 2 <| w_al 0 <| w_gi 1 8 <| w_b2 (fun x y => y ≤ x) (b_V_countRings_41 I Z) (b_V_countRings_12 I Z)
def b_V_countRings_0 (I : Nat → ra_K) (Z : ra_R) : ra_K := w_c 0 <| w_is 1 <| w_c 0 <| w_is 2 <| (I 4)
theorem o_V_countRings_41 {X : ra_X} {p : Program} {l : Launch} {e : Env} {s : State} {m : MethodId} {args : Array Value} {below : List Frame} {meth : Method} {c : Code} {Z : ra_R}  (F : ra_Fx X p rm_V_countRings s m args c prog_10_method_5_code 3 cn_V) (hr : meth.sig.returnType = (some .int)) (hlk : meth.locks = false) {I : Nat → ra_K} (hI : ∀ t ∈ [4], ra_At X p l e rm_V_countRings s m args below meth c 3 (MQ below (ra_Qc X Z) args s 0 0 (ra_A X)) (I t) t) : ra_At X p l e rm_V_countRings s m args below meth c 3 (MQ below (ra_Qc X Z) args s 0 0 (ra_A X)) (b_V_countRings_41 I Z) 41 :=
  r_iload_n F d_V_countRings_41 rfl <| r_ireturn F hr hlk d_V_countRings_42
theorem o_V_countRings_35 {X : ra_X} {p : Program} {l : Launch} {e : Env} {s : State} {m : MethodId} {args : Array Value} {below : List Frame} {meth : Method} {c : Code} {Z : ra_R}  (F : ra_Fx X p rm_V_countRings s m args c prog_10_method_5_code 3 cn_V) (hr : meth.sig.returnType = (some .int)) (hlk : meth.locks = false) {I : Nat → ra_K} (hI : ∀ t ∈ [4], ra_At X p l e rm_V_countRings s m args below meth c 3 (MQ below (ra_Qc X Z) args s 0 0 (ra_A X)) (I t) t) : ra_At X p l e rm_V_countRings s m args below meth c 3 (MQ below (ra_Qc X Z) args s 0 0 (ra_A X)) (b_V_countRings_35 I Z) 35 :=
  r_iinc F d_V_countRings_35 (by decide) (by decide) <| r_goto F d_V_countRings_38 (by decide) (hI 4 (by decide))
theorem o_V_countRings_32 {X : ra_X} {p : Program} {l : Launch} {e : Env} {s : State} {m : MethodId} {args : Array Value} {below : List Frame} {meth : Method} {c : Code} {Z : ra_R}  (F : ra_Fx X p rm_V_countRings s m args c prog_10_method_5_code 3 cn_V) (hr : meth.sig.returnType = (some .int)) (hlk : meth.locks = false) {I : Nat → ra_K} (hI : ∀ t ∈ [4], ra_At X p l e rm_V_countRings s m args below meth c 3 (MQ below (ra_Qc X Z) args s 0 0 (ra_A X)) (I t) t) : ra_At X p l e rm_V_countRings s m args below meth c 3 (MQ below (ra_Qc X Z) args s 0 0 (ra_A X)) (b_V_countRings_32 I Z) 32 :=
  r_iinc F d_V_countRings_32 (by decide) (by decide) <| (o_V_countRings_35 F hr hlk hI)
theorem o_V_countRings_12 {X : ra_X} {p : Program} {l : Launch} {e : Env} {s : State} {m : MethodId} {args : Array Value} {below : List Frame} {meth : Method} {c : Code} {Z : ra_R}  (F : ra_Fx X p rm_V_countRings s m args c prog_10_method_5_code 3 cn_V) (hr : meth.sig.returnType = (some .int)) (hlk : meth.locks = false) {I : Nat → ra_K} (hI : ∀ t ∈ [4], ra_At X p l e rm_V_countRings s m args below meth c 3 (MQ below (ra_Qc X Z) args s 0 0 (ra_A X)) (I t) t) : ra_At X p l e rm_V_countRings s m args below meth c 3 (MQ below (ra_Qc X Z) args s 0 0 (ra_A X)) (b_V_countRings_12 I Z) 12 :=
  r_aload_n F d_V_countRings_12 rfl <| r_getR F cg_V (j := 7) (by decide) rfl fl_V_39 d_V_countRings_13 <| r_iload_n F d_V_countRings_16 rfl <| r_iaload F d_V_countRings_17 <| r_aload_n F d_V_countRings_18 rfl <| r_getR F cg_V (j := 7) (by decide) rfl fl_V_39 d_V_countRings_19 <| r_iload_n F d_V_countRings_22 rfl <| r_iaload F d_V_countRings_23 <| r_ineg F d_V_countRings_24 <| r_iand F d_V_countRings_25 <| r_iconst F d_V_countRings_26 (by decide) <| r_iload_n F d_V_countRings_27 rfl <| r_ishl F d_V_countRings_28 <| r_icmp_ne F d_V_countRings_29 (by decide) (o_V_countRings_35 F hr hlk hI) (o_V_countRings_32 F hr hlk hI)
theorem o_V_countRings_4 {X : ra_X} {p : Program} {l : Launch} {e : Env} {s : State} {m : MethodId} {args : Array Value} {below : List Frame} {meth : Method} {c : Code} {Z : ra_R}  (F : ra_Fx X p rm_V_countRings s m args c prog_10_method_5_code 3 cn_V) (hr : meth.sig.returnType = (some .int)) (hlk : meth.locks = false) {I : Nat → ra_K} (hI : ∀ t ∈ [4], ra_At X p l e rm_V_countRings s m args below meth c 3 (MQ below (ra_Qc X Z) args s 0 0 (ra_A X)) (I t) t) : ra_At X p l e rm_V_countRings s m args below meth c 3 (MQ below (ra_Qc X Z) args s 0 0 (ra_A X)) (b_V_countRings_4 I Z) 4 :=
  r_iload_n F d_V_countRings_4 rfl <| r_aload_n F d_V_countRings_5 rfl <| r_getI F cg_V (j := 8) (by decide) rfl fl_V_61 d_V_countRings_6 <| r_icmp_ge F d_V_countRings_9 (by decide) (o_V_countRings_41 F hr hlk hI) (o_V_countRings_12 F hr hlk hI)
theorem o_V_countRings_0 {X : ra_X} {p : Program} {l : Launch} {e : Env} {s : State} {m : MethodId} {args : Array Value} {below : List Frame} {meth : Method} {c : Code} {Z : ra_R}  (F : ra_Fx X p rm_V_countRings s m args c prog_10_method_5_code 3 cn_V) (hr : meth.sig.returnType = (some .int)) (hlk : meth.locks = false) {I : Nat → ra_K} (hI : ∀ t ∈ [4], ra_At X p l e rm_V_countRings s m args below meth c 3 (MQ below (ra_Qc X Z) args s 0 0 (ra_A X)) (I t) t) : ra_At X p l e rm_V_countRings s m args below meth c 3 (MQ below (ra_Qc X Z) args s 0 0 (ra_A X)) (b_V_countRings_0 I Z) 0 :=
  r_iconst F d_V_countRings_0 (by decide) <| r_istore_n F d_V_countRings_1 rfl (by decide) <| r_iconst F d_V_countRings_2 (by decide) <| r_istore_n F d_V_countRings_3 rfl (by decide) <| (hI 4 (by decide))
theorem g_V_countRings {l : Launch} {X : ra_X}  (sp : ra_Sp) (I : ra_R → List Value → ra_St → Nat → ra_M → ra_K) (ve : ∀ as σ Z, ra_c1 as = true → as.length = 1 → sp as σ Z → b_V_countRings_0 (ra_I (I Z as σ)) Z (ra_pad 3 as) [] σ) (v4 : ∀ as σ Z, sp as σ Z → ∀ μ L S σ1, I Z as σ 4 μ L S σ1 → b_V_countRings_4 (ra_J (I Z as σ) μ) Z L S σ1) : ra_MOK l X mi_V_countRings sp := by
  refine ra_enter (k := fun Z as σ => b_V_countRings_0 (ra_I (I Z as σ)) Z) cn_V rfl (by decide +kernel) ⟨by decide +kernel, by decide +kernel⟩ (by decide +kernel) ?_ ve
  intro p e s m args below meth c Z as σ hsp F hr hlk
  refine o_V_countRings_0 F hr hlk (ra_cuts (b := fun t J => if t = 4 then b_V_countRings_4 J Z else fun _ _ _ => False) ?_ ?_)
  · intro t ht J hJ
    simp only [List.mem_cons, List.not_mem_nil, or_false] at ht
    rcases ht with rfl
    · exact o_V_countRings_4 F hr hlk hJ
  · intro t ht μ L S σ1 hI
    simp only [List.mem_cons, List.not_mem_nil, or_false] at ht
    rcases ht with rfl
    · exact v4 as σ Z hsp μ L S σ1 hI

theorem d_R_count_0 : decode prog_1_method_34_code 0 = .ok (.iload_n 1, 1) := by decide +kernel
theorem d_R_count_1 : decode prog_1_method_34_code 1 = .ok (.tableswitch 126 0 8 #[51, 59, 70, 81, 89, 97, 105, 113, 121], 51) := by decide +kernel
theorem d_R_count_52 : decode prog_1_method_34_code 52 = .ok (.aload_n 0, 1) := by decide +kernel
theorem d_R_count_53 : decode prog_1_method_34_code 53 = .ok (.getfield 12, 3) := by decide +kernel
theorem d_R_count_56 : decode prog_1_method_34_code 56 = .ok (.getfield 152, 3) := by decide +kernel
theorem d_R_count_59 : decode prog_1_method_34_code 59 = .ok (.ireturn, 1) := by decide +kernel
theorem d_R_count_60 : decode prog_1_method_34_code 60 = .ok (.aload_n 0, 1) := by decide +kernel
theorem d_R_count_61 : decode prog_1_method_34_code 61 = .ok (.getfield 12, 3) := by decide +kernel
theorem d_R_count_64 : decode prog_1_method_34_code 64 = .ok (.getfield 272, 3) := by decide +kernel
theorem d_R_count_67 : decode prog_1_method_34_code 67 = .ok (.getfield 276, 3) := by decide +kernel
theorem d_R_count_70 : decode prog_1_method_34_code 70 = .ok (.ireturn, 1) := by decide +kernel
theorem d_R_count_71 : decode prog_1_method_34_code 71 = .ok (.aload_n 0, 1) := by decide +kernel
theorem d_R_count_72 : decode prog_1_method_34_code 72 = .ok (.getfield 12, 3) := by decide +kernel
theorem d_R_count_75 : decode prog_1_method_34_code 75 = .ok (.getfield 279, 3) := by decide +kernel
theorem d_R_count_78 : decode prog_1_method_34_code 78 = .ok (.getfield 276, 3) := by decide +kernel
theorem d_R_count_81 : decode prog_1_method_34_code 81 = .ok (.ireturn, 1) := by decide +kernel
theorem d_R_count_82 : decode prog_1_method_34_code 82 = .ok (.aload_n 0, 1) := by decide +kernel
theorem d_R_count_83 : decode prog_1_method_34_code 83 = .ok (.getfield 19, 3) := by decide +kernel
theorem d_R_count_86 : decode prog_1_method_34_code 86 = .ok (.getfield 149, 3) := by decide +kernel
theorem d_R_count_89 : decode prog_1_method_34_code 89 = .ok (.ireturn, 1) := by decide +kernel
theorem d_R_count_90 : decode prog_1_method_34_code 90 = .ok (.aload_n 0, 1) := by decide +kernel
theorem d_R_count_91 : decode prog_1_method_34_code 91 = .ok (.getfield 12, 3) := by decide +kernel
theorem d_R_count_94 : decode prog_1_method_34_code 94 = .ok (.invokevirtual 282, 3) := by decide +kernel
theorem d_R_count_97 : decode prog_1_method_34_code 97 = .ok (.ireturn, 1) := by decide +kernel
theorem d_R_count_98 : decode prog_1_method_34_code 98 = .ok (.aload_n 0, 1) := by decide +kernel
theorem d_R_count_99 : decode prog_1_method_34_code 99 = .ok (.getfield 51, 3) := by decide +kernel
theorem d_R_count_102 : decode prog_1_method_34_code 102 = .ok (.getfield 285, 3) := by decide +kernel
theorem d_R_count_105 : decode prog_1_method_34_code 105 = .ok (.ireturn, 1) := by decide +kernel
theorem d_R_count_106 : decode prog_1_method_34_code 106 = .ok (.aload_n 0, 1) := by decide +kernel
theorem d_R_count_107 : decode prog_1_method_34_code 107 = .ok (.getfield 19, 3) := by decide +kernel
theorem d_R_count_110 : decode prog_1_method_34_code 110 = .ok (.getfield 286, 3) := by decide +kernel
theorem d_R_count_113 : decode prog_1_method_34_code 113 = .ok (.ireturn, 1) := by decide +kernel
theorem d_R_count_114 : decode prog_1_method_34_code 114 = .ok (.aload_n 0, 1) := by decide +kernel
theorem d_R_count_115 : decode prog_1_method_34_code 115 = .ok (.getfield 19, 3) := by decide +kernel
theorem d_R_count_118 : decode prog_1_method_34_code 118 = .ok (.getfield 289, 3) := by decide +kernel
theorem d_R_count_121 : decode prog_1_method_34_code 121 = .ok (.ireturn, 1) := by decide +kernel
theorem d_R_count_122 : decode prog_1_method_34_code 122 = .ok (.aload_n 0, 1) := by decide +kernel
theorem d_R_count_123 : decode prog_1_method_34_code 123 = .ok (.getfield 252, 3) := by decide +kernel
theorem d_R_count_126 : decode prog_1_method_34_code 126 = .ok (.ireturn, 1) := by decide +kernel
theorem d_R_count_127 : decode prog_1_method_34_code 127 = .ok (.bipush (-2), 2) := by decide +kernel
theorem d_R_count_129 : decode prog_1_method_34_code 129 = .ok (.ireturn, 1) := by decide +kernel
def b_R_count_127 (c0 : ra_Sp) (Z : ra_R) : ra_K := w_c (-2) <| w_ir Z
def b_R_count_122 (c0 : ra_Sp) (Z : ra_R) : ra_K := w_al 0 <| w_gi 0 9 <| w_ir Z
def b_R_count_114 (c0 : ra_Sp) (Z : ra_R) : ra_K := w_al 0 <| w_gr 0 1 <| w_gi 3 3 <| w_ir Z
def b_R_count_106 (c0 : ra_Sp) (Z : ra_R) : ra_K := w_al 0 <| w_gr 0 1 <| w_gi 3 2 <| w_ir Z
def b_R_count_98 (c0 : ra_Sp) (Z : ra_R) : ra_K := w_al 0 <| w_gr 0 5 <| w_gi 8 8 <| w_ir Z
def b_R_count_90 (c0 : ra_Sp) (Z : ra_R) : ra_K := w_al 0 <| w_gr 0 0 <| w_cv c0 1 1 <| w_ir Z
def b_R_count_82 (c0 : ra_Sp) (Z : ra_R) : ra_K := w_al 0 <| w_gr 0 1 <| w_gi 3 1 <| w_ir Z
def b_R_count_71 (c0 : ra_Sp) (Z : ra_R) : ra_K := w_al 0 <| w_gr 0 0 <| w_gr 1 1 <| w_gi 2 2 <| w_ir Z
def b_R_count_60 (c0 : ra_Sp) (Z : ra_R) : ra_K := w_al 0 <| w_gr 0 0 <| w_gr 1 0 <| w_gi 2 2 <| w_ir Z
def b_R_count_52 (c0 : ra_Sp) (Z : ra_R) : ra_K := w_al 0 <| w_gr 0 0 <| w_gi 1 8 <| w_ir Z
def b_R_count_0 (c0 : ra_Sp) (Z : ra_R) : ra_K := w_il 1 <| w_sw [(0, (b_R_count_52 c0 Z)), (1, (b_R_count_60 c0 Z)), (2, (b_R_count_71 c0 Z)), (3, (b_R_count_82 c0 Z)), (4, (b_R_count_90 c0 Z)), (5, (b_R_count_98 c0 Z)), (6, (b_R_count_106 c0 Z)), (7, (b_R_count_114 c0 Z)), (8, (b_R_count_122 c0 Z))] (b_R_count_127 c0 Z)
theorem o_R_count_127 {X : ra_X} {p : Program} {l : Launch} {e : Env} {s : State} {m : MethodId} {args : Array Value} {below : List Frame} {meth : Method} {c : Code} {Z : ra_R} {c0 : ra_Sp}  (h0 : ra_MOK l X mi_V_countRings c0) (F : ra_Fx X p rm_R_count s m args c prog_1_method_34_code 2 cn_R) (hr : meth.sig.returnType = (some .int)) (hlk : meth.locks = false) : ra_At X p l e rm_R_count s m args below meth c 2 (MQ below (ra_Qc X Z) args s 0 0 (ra_A X)) (b_R_count_127 c0 Z) 127 :=
  r_bipush F d_R_count_127 (by decide) <| r_ireturn F hr hlk d_R_count_129
theorem o_R_count_122 {X : ra_X} {p : Program} {l : Launch} {e : Env} {s : State} {m : MethodId} {args : Array Value} {below : List Frame} {meth : Method} {c : Code} {Z : ra_R} {c0 : ra_Sp}  (h0 : ra_MOK l X mi_V_countRings c0) (F : ra_Fx X p rm_R_count s m args c prog_1_method_34_code 2 cn_R) (hr : meth.sig.returnType = (some .int)) (hlk : meth.locks = false) : ra_At X p l e rm_R_count s m args below meth c 2 (MQ below (ra_Qc X Z) args s 0 0 (ra_A X)) (b_R_count_122 c0 Z) 122 :=
  r_aload_n F d_R_count_122 rfl <| r_getI F cg_R (j := 9) (by decide) rfl fl_R_252 d_R_count_123 <| r_ireturn F hr hlk d_R_count_126
theorem o_R_count_114 {X : ra_X} {p : Program} {l : Launch} {e : Env} {s : State} {m : MethodId} {args : Array Value} {below : List Frame} {meth : Method} {c : Code} {Z : ra_R} {c0 : ra_Sp}  (h0 : ra_MOK l X mi_V_countRings c0) (F : ra_Fx X p rm_R_count s m args c prog_1_method_34_code 2 cn_R) (hr : meth.sig.returnType = (some .int)) (hlk : meth.locks = false) : ra_At X p l e rm_R_count s m args below meth c 2 (MQ below (ra_Qc X Z) args s 0 0 (ra_A X)) (b_R_count_114 c0 Z) 114 :=
  r_aload_n F d_R_count_114 rfl <| r_getR F cg_R (j := 1) (by decide) rfl fl_R_19 d_R_count_115 <| r_getI F cg_Wt (j := 3) (by decide) rfl fl_R_289 d_R_count_118 <| r_ireturn F hr hlk d_R_count_121
theorem o_R_count_106 {X : ra_X} {p : Program} {l : Launch} {e : Env} {s : State} {m : MethodId} {args : Array Value} {below : List Frame} {meth : Method} {c : Code} {Z : ra_R} {c0 : ra_Sp}  (h0 : ra_MOK l X mi_V_countRings c0) (F : ra_Fx X p rm_R_count s m args c prog_1_method_34_code 2 cn_R) (hr : meth.sig.returnType = (some .int)) (hlk : meth.locks = false) : ra_At X p l e rm_R_count s m args below meth c 2 (MQ below (ra_Qc X Z) args s 0 0 (ra_A X)) (b_R_count_106 c0 Z) 106 :=
  r_aload_n F d_R_count_106 rfl <| r_getR F cg_R (j := 1) (by decide) rfl fl_R_19 d_R_count_107 <| r_getI F cg_Wt (j := 2) (by decide) rfl fl_R_286 d_R_count_110 <| r_ireturn F hr hlk d_R_count_113
theorem o_R_count_98 {X : ra_X} {p : Program} {l : Launch} {e : Env} {s : State} {m : MethodId} {args : Array Value} {below : List Frame} {meth : Method} {c : Code} {Z : ra_R} {c0 : ra_Sp}  (h0 : ra_MOK l X mi_V_countRings c0) (F : ra_Fx X p rm_R_count s m args c prog_1_method_34_code 2 cn_R) (hr : meth.sig.returnType = (some .int)) (hlk : meth.locks = false) : ra_At X p l e rm_R_count s m args below meth c 2 (MQ below (ra_Qc X Z) args s 0 0 (ra_A X)) (b_R_count_98 c0 Z) 98 :=
  r_aload_n F d_R_count_98 rfl <| r_getR F cg_R (j := 5) (by decide) rfl fl_R_51 d_R_count_99 <| r_getI F cg_Kn (j := 8) (by decide) rfl fl_R_285 d_R_count_102 <| r_ireturn F hr hlk d_R_count_105
theorem o_R_count_90 {X : ra_X} {p : Program} {l : Launch} {e : Env} {s : State} {m : MethodId} {args : Array Value} {below : List Frame} {meth : Method} {c : Code} {Z : ra_R} {c0 : ra_Sp}  (h0 : ra_MOK l X mi_V_countRings c0) (F : ra_Fx X p rm_R_count s m args c prog_1_method_34_code 2 cn_R) (hr : meth.sig.returnType = (some .int)) (hlk : meth.locks = false) : ra_At X p l e rm_R_count s m args below meth c 2 (MQ below (ra_Qc X Z) args s 0 0 (ra_A X)) (b_R_count_90 c0 Z) 90 :=
  r_aload_n F d_R_count_90 rfl <| r_getR F cg_R (j := 0) (by decide) rfl fl_R_12 d_R_count_91 <| r_callV F h0 (co_V_countRings (by decide +kernel) (by decide +kernel)) ⟨rfl, by decide +kernel⟩ ⟨rfl, by decide⟩ ml_R_282 im_V_countRings se_V_countRings d_R_count_94 <| r_ireturn F hr hlk d_R_count_97
theorem o_R_count_82 {X : ra_X} {p : Program} {l : Launch} {e : Env} {s : State} {m : MethodId} {args : Array Value} {below : List Frame} {meth : Method} {c : Code} {Z : ra_R} {c0 : ra_Sp}  (h0 : ra_MOK l X mi_V_countRings c0) (F : ra_Fx X p rm_R_count s m args c prog_1_method_34_code 2 cn_R) (hr : meth.sig.returnType = (some .int)) (hlk : meth.locks = false) : ra_At X p l e rm_R_count s m args below meth c 2 (MQ below (ra_Qc X Z) args s 0 0 (ra_A X)) (b_R_count_82 c0 Z) 82 :=
  r_aload_n F d_R_count_82 rfl <| r_getR F cg_R (j := 1) (by decide) rfl fl_R_19 d_R_count_83 <| r_getI F cg_Wt (j := 1) (by decide) rfl fl_R_149 d_R_count_86 <| r_ireturn F hr hlk d_R_count_89
theorem o_R_count_71 {X : ra_X} {p : Program} {l : Launch} {e : Env} {s : State} {m : MethodId} {args : Array Value} {below : List Frame} {meth : Method} {c : Code} {Z : ra_R} {c0 : ra_Sp}  (h0 : ra_MOK l X mi_V_countRings c0) (F : ra_Fx X p rm_R_count s m args c prog_1_method_34_code 2 cn_R) (hr : meth.sig.returnType = (some .int)) (hlk : meth.locks = false) : ra_At X p l e rm_R_count s m args below meth c 2 (MQ below (ra_Qc X Z) args s 0 0 (ra_A X)) (b_R_count_71 c0 Z) 71 :=
  r_aload_n F d_R_count_71 rfl <| r_getR F cg_R (j := 0) (by decide) rfl fl_R_12 d_R_count_72 <| r_getR F cg_V (j := 1) (by decide) rfl fl_R_279 d_R_count_75 <| r_getI F cg_T (j := 2) (by decide) rfl fl_R_276 d_R_count_78 <| r_ireturn F hr hlk d_R_count_81
theorem o_R_count_60 {X : ra_X} {p : Program} {l : Launch} {e : Env} {s : State} {m : MethodId} {args : Array Value} {below : List Frame} {meth : Method} {c : Code} {Z : ra_R} {c0 : ra_Sp}  (h0 : ra_MOK l X mi_V_countRings c0) (F : ra_Fx X p rm_R_count s m args c prog_1_method_34_code 2 cn_R) (hr : meth.sig.returnType = (some .int)) (hlk : meth.locks = false) : ra_At X p l e rm_R_count s m args below meth c 2 (MQ below (ra_Qc X Z) args s 0 0 (ra_A X)) (b_R_count_60 c0 Z) 60 :=
  r_aload_n F d_R_count_60 rfl <| r_getR F cg_R (j := 0) (by decide) rfl fl_R_12 d_R_count_61 <| r_getR F cg_V (j := 0) (by decide) rfl fl_R_272 d_R_count_64 <| r_getI F cg_T (j := 2) (by decide) rfl fl_R_276 d_R_count_67 <| r_ireturn F hr hlk d_R_count_70
theorem o_R_count_52 {X : ra_X} {p : Program} {l : Launch} {e : Env} {s : State} {m : MethodId} {args : Array Value} {below : List Frame} {meth : Method} {c : Code} {Z : ra_R} {c0 : ra_Sp}  (h0 : ra_MOK l X mi_V_countRings c0) (F : ra_Fx X p rm_R_count s m args c prog_1_method_34_code 2 cn_R) (hr : meth.sig.returnType = (some .int)) (hlk : meth.locks = false) : ra_At X p l e rm_R_count s m args below meth c 2 (MQ below (ra_Qc X Z) args s 0 0 (ra_A X)) (b_R_count_52 c0 Z) 52 :=
  r_aload_n F d_R_count_52 rfl <| r_getR F cg_R (j := 0) (by decide) rfl fl_R_12 d_R_count_53 <| r_getI F cg_V (j := 8) (by decide) rfl fl_R_152 d_R_count_56 <| r_ireturn F hr hlk d_R_count_59
theorem o_R_count_0 {X : ra_X} {p : Program} {l : Launch} {e : Env} {s : State} {m : MethodId} {args : Array Value} {below : List Frame} {meth : Method} {c : Code} {Z : ra_R} {c0 : ra_Sp}  (h0 : ra_MOK l X mi_V_countRings c0) (F : ra_Fx X p rm_R_count s m args c prog_1_method_34_code 2 cn_R) (hr : meth.sig.returnType = (some .int)) (hlk : meth.locks = false) : ra_At X p l e rm_R_count s m args below meth c 2 (MQ below (ra_Qc X Z) args s 0 0 (ra_A X)) (b_R_count_0 c0 Z) 0 :=
  r_iload_n F d_R_count_0 rfl <| r_tsw F d_R_count_1 (ts := [52, 60, 71, 82, 90, 98, 106, 114, 122]) ⟨(o_R_count_52 h0 F hr hlk), (o_R_count_60 h0 F hr hlk), (o_R_count_71 h0 F hr hlk), (o_R_count_82 h0 F hr hlk), (o_R_count_90 h0 F hr hlk), (o_R_count_98 h0 F hr hlk), (o_R_count_106 h0 F hr hlk), (o_R_count_114 h0 F hr hlk), (o_R_count_122 h0 F hr hlk), trivial⟩ rfl (by decide +kernel) (by decide +kernel) (by decide +kernel) (o_R_count_127 h0 F hr hlk)
theorem g_R_count {l : Launch} {X : ra_X} {c0 : ra_Sp}  (h0 : ra_MOK l X mi_V_countRings c0) (sp : ra_Sp) (ve : ∀ as σ Z, ra_c1 as = true → as.length = 2 → sp as σ Z → b_R_count_0 c0 Z (ra_pad 2 as) [] σ) : ra_MOK l X mi_R_count sp := by
  refine ra_enter (k := fun Z as σ => b_R_count_0 c0 Z) cn_R rfl (by decide +kernel) ⟨by decide +kernel, by decide +kernel⟩ (by decide +kernel) ?_ ve
  intro p e s m args below meth c Z as σ hsp F hr hlk
  exact o_R_count_0 h0 F hr hlk

theorem d_R_digest_0 : decode prog_1_method_35_code 0 = .ok (.ldc2_w 292, 3) := by decide +kernel
theorem d_R_digest_3 : decode prog_1_method_35_code 3 = .ok (.lstore_n 1, 1) := by decide +kernel
theorem d_R_digest_4 : decode prog_1_method_35_code 4 = .ok (.iconst 0, 1) := by decide +kernel
theorem d_R_digest_5 : decode prog_1_method_35_code 5 = .ok (.istore_n 3, 1) := by decide +kernel
theorem d_R_digest_6 : decode prog_1_method_35_code 6 = .ok (.iload_n 3, 1) := by decide +kernel
theorem d_R_digest_7 : decode prog_1_method_35_code 7 = .ok (.bipush 7, 2) := by decide +kernel
theorem d_R_digest_9 : decode prog_1_method_35_code 9 = .ok (.if_icmp .gt 22, 3) := by decide +kernel
theorem d_R_digest_12 : decode prog_1_method_35_code 12 = .ok (.ldc2_w 294, 3) := by decide +kernel
theorem d_R_digest_15 : decode prog_1_method_35_code 15 = .ok (.lload_n 1, 1) := by decide +kernel
theorem d_R_digest_16 : decode prog_1_method_35_code 16 = .ok (.lmul, 1) := by decide +kernel
theorem d_R_digest_17 : decode prog_1_method_35_code 17 = .ok (.aload_n 0, 1) := by decide +kernel
theorem d_R_digest_18 : decode prog_1_method_35_code 18 = .ok (.iload_n 3, 1) := by decide +kernel
theorem d_R_digest_19 : decode prog_1_method_35_code 19 = .ok (.invokevirtual 296, 3) := by decide +kernel
theorem d_R_digest_22 : decode prog_1_method_35_code 22 = .ok (.i2l, 1) := by decide +kernel
theorem d_R_digest_23 : decode prog_1_method_35_code 23 = .ok (.ladd, 1) := by decide +kernel
theorem d_R_digest_24 : decode prog_1_method_35_code 24 = .ok (.lstore_n 1, 1) := by decide +kernel
theorem d_R_digest_25 : decode prog_1_method_35_code 25 = .ok (.iinc 3 1, 3) := by decide +kernel
theorem d_R_digest_28 : decode prog_1_method_35_code 28 = .ok (.goto (-22), 3) := by decide +kernel
theorem d_R_digest_31 : decode prog_1_method_35_code 31 = .ok (.ldc2_w 294, 3) := by decide +kernel
theorem d_R_digest_34 : decode prog_1_method_35_code 34 = .ok (.lload_n 1, 1) := by decide +kernel
theorem d_R_digest_35 : decode prog_1_method_35_code 35 = .ok (.lmul, 1) := by decide +kernel
theorem d_R_digest_36 : decode prog_1_method_35_code 36 = .ok (.aload_n 0, 1) := by decide +kernel
theorem d_R_digest_37 : decode prog_1_method_35_code 37 = .ok (.iconst 0, 1) := by decide +kernel
theorem d_R_digest_38 : decode prog_1_method_35_code 38 = .ok (.invokevirtual 298, 3) := by decide +kernel
theorem d_R_digest_41 : decode prog_1_method_35_code 41 = .ok (.i2l, 1) := by decide +kernel
theorem d_R_digest_42 : decode prog_1_method_35_code 42 = .ok (.ladd, 1) := by decide +kernel
theorem d_R_digest_43 : decode prog_1_method_35_code 43 = .ok (.lstore_n 1, 1) := by decide +kernel
theorem d_R_digest_44 : decode prog_1_method_35_code 44 = .ok (.ldc2_w 294, 3) := by decide +kernel
theorem d_R_digest_47 : decode prog_1_method_35_code 47 = .ok (.lload_n 1, 1) := by decide +kernel
theorem d_R_digest_48 : decode prog_1_method_35_code 48 = .ok (.lmul, 1) := by decide +kernel
theorem d_R_digest_49 : decode prog_1_method_35_code 49 = .ok (.aload_n 0, 1) := by decide +kernel
theorem d_R_digest_50 : decode prog_1_method_35_code 50 = .ok (.iconst 1, 1) := by decide +kernel
theorem d_R_digest_51 : decode prog_1_method_35_code 51 = .ok (.invokevirtual 298, 3) := by decide +kernel
theorem d_R_digest_54 : decode prog_1_method_35_code 54 = .ok (.i2l, 1) := by decide +kernel
theorem d_R_digest_55 : decode prog_1_method_35_code 55 = .ok (.ladd, 1) := by decide +kernel
theorem d_R_digest_56 : decode prog_1_method_35_code 56 = .ok (.lstore_n 1, 1) := by decide +kernel
theorem d_R_digest_57 : decode prog_1_method_35_code 57 = .ok (.iconst 0, 1) := by decide +kernel
theorem d_R_digest_58 : decode prog_1_method_35_code 58 = .ok (.istore_n 3, 1) := by decide +kernel
theorem d_R_digest_59 : decode prog_1_method_35_code 59 = .ok (.iload_n 3, 1) := by decide +kernel
theorem d_R_digest_60 : decode prog_1_method_35_code 60 = .ok (.aload_n 0, 1) := by decide +kernel
theorem d_R_digest_61 : decode prog_1_method_35_code 61 = .ok (.getfield 12, 3) := by decide +kernel
theorem d_R_digest_64 : decode prog_1_method_35_code 64 = .ok (.getfield 152, 3) := by decide +kernel
theorem d_R_digest_67 : decode prog_1_method_35_code 67 = .ok (.if_icmp .ge 188, 3) := by decide +kernel
theorem d_R_digest_70 : decode prog_1_method_35_code 70 = .ok (.iconst 0, 1) := by decide +kernel
theorem d_R_digest_71 : decode prog_1_method_35_code 71 = .ok (.istore 4, 2) := by decide +kernel
theorem d_R_digest_73 : decode prog_1_method_35_code 73 = .ok (.iload 4, 2) := by decide +kernel
theorem d_R_digest_75 : decode prog_1_method_35_code 75 = .ok (.iconst 4, 1) := by decide +kernel
theorem d_R_digest_76 : decode prog_1_method_35_code 76 = .ok (.if_icmp .gt 24, 3) := by decide +kernel
theorem d_R_digest_79 : decode prog_1_method_35_code 79 = .ok (.ldc2_w 294, 3) := by decide +kernel
theorem d_R_digest_82 : decode prog_1_method_35_code 82 = .ok (.lload_n 1, 1) := by decide +kernel
theorem d_R_digest_83 : decode prog_1_method_35_code 83 = .ok (.lmul, 1) := by decide +kernel
theorem d_R_digest_84 : decode prog_1_method_35_code 84 = .ok (.aload_n 0, 1) := by decide +kernel
theorem d_R_digest_85 : decode prog_1_method_35_code 85 = .ok (.iload_n 3, 1) := by decide +kernel
theorem d_R_digest_86 : decode prog_1_method_35_code 86 = .ok (.iload 4, 2) := by decide +kernel
theorem d_R_digest_88 : decode prog_1_method_35_code 88 = .ok (.invokevirtual 301, 3) := by decide +kernel
theorem d_R_digest_91 : decode prog_1_method_35_code 91 = .ok (.i2l, 1) := by decide +kernel
theorem d_R_digest_92 : decode prog_1_method_35_code 92 = .ok (.ladd, 1) := by decide +kernel
theorem d_R_digest_93 : decode prog_1_method_35_code 93 = .ok (.lstore_n 1, 1) := by decide +kernel
theorem d_R_digest_94 : decode prog_1_method_35_code 94 = .ok (.iinc 4 1, 3) := by decide +kernel
theorem d_R_digest_97 : decode prog_1_method_35_code 97 = .ok (.goto (-24), 3) := by decide +kernel
theorem d_R_digest_100 : decode prog_1_method_35_code 100 = .ok (.iconst 0, 1) := by decide +kernel
theorem d_R_digest_101 : decode prog_1_method_35_code 101 = .ok (.istore 4, 2) := by decide +kernel
theorem d_R_digest_103 : decode prog_1_method_35_code 103 = .ok (.iload 4, 2) := by decide +kernel
theorem d_R_digest_105 : decode prog_1_method_35_code 105 = .ok (.iconst 4, 1) := by decide +kernel
theorem d_R_digest_106 : decode prog_1_method_35_code 106 = .ok (.if_icmp .ge 31, 3) := by decide +kernel
theorem d_R_digest_109 : decode prog_1_method_35_code 109 = .ok (.ldc2_w 294, 3) := by decide +kernel
theorem d_R_digest_112 : decode prog_1_method_35_code 112 = .ok (.lload_n 1, 1) := by decide +kernel
theorem d_R_digest_113 : decode prog_1_method_35_code 113 = .ok (.lmul, 1) := by decide +kernel
theorem d_R_digest_114 : decode prog_1_method_35_code 114 = .ok (.aload_n 0, 1) := by decide +kernel
theorem d_R_digest_115 : decode prog_1_method_35_code 115 = .ok (.iload 4, 2) := by decide +kernel
theorem d_R_digest_117 : decode prog_1_method_35_code 117 = .ok (.iload_n 3, 1) := by decide +kernel
theorem d_R_digest_118 : decode prog_1_method_35_code 118 = .ok (.aload_n 0, 1) := by decide +kernel
theorem d_R_digest_119 : decode prog_1_method_35_code 119 = .ok (.getfield 19, 3) := by decide +kernel
theorem d_R_digest_122 : decode prog_1_method_35_code 122 = .ok (.getfield 149, 3) := by decide +kernel
theorem d_R_digest_125 : decode prog_1_method_35_code 125 = .ok (.invokevirtual 145, 3) := by decide +kernel
theorem d_R_digest_128 : decode prog_1_method_35_code 128 = .ok (.i2l, 1) := by decide +kernel
theorem d_R_digest_129 : decode prog_1_method_35_code 129 = .ok (.ladd, 1) := by decide +kernel
theorem d_R_digest_130 : decode prog_1_method_35_code 130 = .ok (.lstore_n 1, 1) := by decide +kernel
theorem d_R_digest_131 : decode prog_1_method_35_code 131 = .ok (.iinc 4 1, 3) := by decide +kernel
theorem d_R_digest_134 : decode prog_1_method_35_code 134 = .ok (.goto (-31), 3) := by decide +kernel
theorem d_R_digest_137 : decode prog_1_method_35_code 137 = .ok (.ldc2_w 294, 3) := by decide +kernel
theorem d_R_digest_140 : decode prog_1_method_35_code 140 = .ok (.lload_n 1, 1) := by decide +kernel
theorem d_R_digest_141 : decode prog_1_method_35_code 141 = .ok (.lmul, 1) := by decide +kernel
theorem d_R_digest_142 : decode prog_1_method_35_code 142 = .ok (.aload_n 0, 1) := by decide +kernel
theorem d_R_digest_143 : decode prog_1_method_35_code 143 = .ok (.iload_n 3, 1) := by decide +kernel
theorem d_R_digest_144 : decode prog_1_method_35_code 144 = .ok (.iconst 0, 1) := by decide +kernel
theorem d_R_digest_145 : decode prog_1_method_35_code 145 = .ok (.invokevirtual 304, 3) := by decide +kernel
theorem d_R_digest_148 : decode prog_1_method_35_code 148 = .ok (.i2l, 1) := by decide +kernel
theorem d_R_digest_149 : decode prog_1_method_35_code 149 = .ok (.ladd, 1) := by decide +kernel
theorem d_R_digest_150 : decode prog_1_method_35_code 150 = .ok (.lstore_n 1, 1) := by decide +kernel
theorem d_R_digest_151 : decode prog_1_method_35_code 151 = .ok (.ldc2_w 294, 3) := by decide +kernel
theorem d_R_digest_154 : decode prog_1_method_35_code 154 = .ok (.lload_n 1, 1) := by decide +kernel
theorem d_R_digest_155 : decode prog_1_method_35_code 155 = .ok (.lmul, 1) := by decide +kernel
theorem d_R_digest_156 : decode prog_1_method_35_code 156 = .ok (.aload_n 0, 1) := by decide +kernel
theorem d_R_digest_157 : decode prog_1_method_35_code 157 = .ok (.iload_n 3, 1) := by decide +kernel
theorem d_R_digest_158 : decode prog_1_method_35_code 158 = .ok (.iconst 1, 1) := by decide +kernel
theorem d_R_digest_159 : decode prog_1_method_35_code 159 = .ok (.invokevirtual 304, 3) := by decide +kernel
theorem d_R_digest_162 : decode prog_1_method_35_code 162 = .ok (.i2l, 1) := by decide +kernel
theorem d_R_digest_163 : decode prog_1_method_35_code 163 = .ok (.ladd, 1) := by decide +kernel
theorem d_R_digest_164 : decode prog_1_method_35_code 164 = .ok (.lstore_n 1, 1) := by decide +kernel
theorem d_R_digest_165 : decode prog_1_method_35_code 165 = .ok (.ldc2_w 294, 3) := by decide +kernel
theorem d_R_digest_168 : decode prog_1_method_35_code 168 = .ok (.lload_n 1, 1) := by decide +kernel
theorem d_R_digest_169 : decode prog_1_method_35_code 169 = .ok (.lmul, 1) := by decide +kernel
theorem d_R_digest_170 : decode prog_1_method_35_code 170 = .ok (.aload_n 0, 1) := by decide +kernel
theorem d_R_digest_171 : decode prog_1_method_35_code 171 = .ok (.iload_n 3, 1) := by decide +kernel
theorem d_R_digest_172 : decode prog_1_method_35_code 172 = .ok (.iconst 3, 1) := by decide +kernel
theorem d_R_digest_173 : decode prog_1_method_35_code 173 = .ok (.iconst 0, 1) := by decide +kernel
theorem d_R_digest_174 : decode prog_1_method_35_code 174 = .ok (.invokevirtual 306, 3) := by decide +kernel
theorem d_R_digest_177 : decode prog_1_method_35_code 177 = .ok (.i2l, 1) := by decide +kernel
theorem d_R_digest_178 : decode prog_1_method_35_code 178 = .ok (.ladd, 1) := by decide +kernel
theorem d_R_digest_179 : decode prog_1_method_35_code 179 = .ok (.lstore_n 1, 1) := by decide +kernel
theorem d_R_digest_180 : decode prog_1_method_35_code 180 = .ok (.ldc2_w 294, 3) := by decide +kernel
theorem d_R_digest_183 : decode prog_1_method_35_code 183 = .ok (.lload_n 1, 1) := by decide +kernel
theorem d_R_digest_184 : decode prog_1_method_35_code 184 = .ok (.lmul, 1) := by decide +kernel
theorem d_R_digest_185 : decode prog_1_method_35_code 185 = .ok (.aload_n 0, 1) := by decide +kernel
theorem d_R_digest_186 : decode prog_1_method_35_code 186 = .ok (.iload_n 3, 1) := by decide +kernel
theorem d_R_digest_187 : decode prog_1_method_35_code 187 = .ok (.iconst 3, 1) := by decide +kernel
theorem d_R_digest_188 : decode prog_1_method_35_code 188 = .ok (.iconst 1, 1) := by decide +kernel
theorem d_R_digest_189 : decode prog_1_method_35_code 189 = .ok (.invokevirtual 306, 3) := by decide +kernel
theorem d_R_digest_192 : decode prog_1_method_35_code 192 = .ok (.i2l, 1) := by decide +kernel
theorem d_R_digest_193 : decode prog_1_method_35_code 193 = .ok (.ladd, 1) := by decide +kernel
theorem d_R_digest_194 : decode prog_1_method_35_code 194 = .ok (.lstore_n 1, 1) := by decide +kernel
theorem d_R_digest_195 : decode prog_1_method_35_code 195 = .ok (.ldc2_w 294, 3) := by decide +kernel
theorem d_R_digest_198 : decode prog_1_method_35_code 198 = .ok (.lload_n 1, 1) := by decide +kernel
theorem d_R_digest_199 : decode prog_1_method_35_code 199 = .ok (.lmul, 1) := by decide +kernel
theorem d_R_digest_200 : decode prog_1_method_35_code 200 = .ok (.aload_n 0, 1) := by decide +kernel
theorem d_R_digest_201 : decode prog_1_method_35_code 201 = .ok (.iload_n 3, 1) := by decide +kernel
theorem d_R_digest_202 : decode prog_1_method_35_code 202 = .ok (.invokevirtual 309, 3) := by decide +kernel
theorem d_R_digest_205 : decode prog_1_method_35_code 205 = .ok (.i2l, 1) := by decide +kernel
theorem d_R_digest_206 : decode prog_1_method_35_code 206 = .ok (.ladd, 1) := by decide +kernel
theorem d_R_digest_207 : decode prog_1_method_35_code 207 = .ok (.lstore_n 1, 1) := by decide +kernel
theorem d_R_digest_208 : decode prog_1_method_35_code 208 = .ok (.ldc2_w 294, 3) := by decide +kernel
theorem d_R_digest_211 : decode prog_1_method_35_code 211 = .ok (.lload_n 1, 1) := by decide +kernel
theorem d_R_digest_212 : decode prog_1_method_35_code 212 = .ok (.lmul, 1) := by decide +kernel
theorem d_R_digest_213 : decode prog_1_method_35_code 213 = .ok (.aload_n 0, 1) := by decide +kernel
theorem d_R_digest_214 : decode prog_1_method_35_code 214 = .ok (.iload_n 3, 1) := by decide +kernel
theorem d_R_digest_215 : decode prog_1_method_35_code 215 = .ok (.invokevirtual 312, 3) := by decide +kernel
theorem d_R_digest_218 : decode prog_1_method_35_code 218 = .ok (.i2l, 1) := by decide +kernel
theorem d_R_digest_219 : decode prog_1_method_35_code 219 = .ok (.ladd, 1) := by decide +kernel
theorem d_R_digest_220 : decode prog_1_method_35_code 220 = .ok (.lstore_n 1, 1) := by decide +kernel
theorem d_R_digest_221 : decode prog_1_method_35_code 221 = .ok (.ldc2_w 294, 3) := by decide +kernel
theorem d_R_digest_224 : decode prog_1_method_35_code 224 = .ok (.lload_n 1, 1) := by decide +kernel
theorem d_R_digest_225 : decode prog_1_method_35_code 225 = .ok (.lmul, 1) := by decide +kernel
theorem d_R_digest_226 : decode prog_1_method_35_code 226 = .ok (.aload_n 0, 1) := by decide +kernel
theorem d_R_digest_227 : decode prog_1_method_35_code 227 = .ok (.iload_n 3, 1) := by decide +kernel
theorem d_R_digest_228 : decode prog_1_method_35_code 228 = .ok (.invokevirtual 315, 3) := by decide +kernel
theorem d_R_digest_231 : decode prog_1_method_35_code 231 = .ok (.i2l, 1) := by decide +kernel
theorem d_R_digest_232 : decode prog_1_method_35_code 232 = .ok (.ladd, 1) := by decide +kernel
theorem d_R_digest_233 : decode prog_1_method_35_code 233 = .ok (.lstore_n 1, 1) := by decide +kernel
theorem d_R_digest_234 : decode prog_1_method_35_code 234 = .ok (.ldc2_w 294, 3) := by decide +kernel
theorem d_R_digest_237 : decode prog_1_method_35_code 237 = .ok (.lload_n 1, 1) := by decide +kernel
theorem d_R_digest_238 : decode prog_1_method_35_code 238 = .ok (.lmul, 1) := by decide +kernel
theorem d_R_digest_239 : decode prog_1_method_35_code 239 = .ok (.aload_n 0, 1) := by decide +kernel
theorem d_R_digest_240 : decode prog_1_method_35_code 240 = .ok (.bipush 9, 2) := by decide +kernel
theorem d_R_digest_242 : decode prog_1_method_35_code 242 = .ok (.iload_n 3, 1) := by decide +kernel
theorem d_R_digest_243 : decode prog_1_method_35_code 243 = .ok (.invokevirtual 318, 3) := by decide +kernel
theorem d_R_digest_246 : decode prog_1_method_35_code 246 = .ok (.i2l, 1) := by decide +kernel
theorem d_R_digest_247 : decode prog_1_method_35_code 247 = .ok (.ladd, 1) := by decide +kernel
theorem d_R_digest_248 : decode prog_1_method_35_code 248 = .ok (.lstore_n 1, 1) := by decide +kernel
theorem d_R_digest_249 : decode prog_1_method_35_code 249 = .ok (.iinc 3 1, 3) := by decide +kernel
theorem d_R_digest_252 : decode prog_1_method_35_code 252 = .ok (.goto (-193), 3) := by decide +kernel
theorem d_R_digest_255 : decode prog_1_method_35_code 255 = .ok (.iconst 0, 1) := by decide +kernel
theorem d_R_digest_256 : decode prog_1_method_35_code 256 = .ok (.istore_n 3, 1) := by decide +kernel
theorem d_R_digest_257 : decode prog_1_method_35_code 257 = .ok (.iload_n 3, 1) := by decide +kernel
theorem d_R_digest_258 : decode prog_1_method_35_code 258 = .ok (.iconst 4, 1) := by decide +kernel
theorem d_R_digest_259 : decode prog_1_method_35_code 259 = .ok (.if_icmp .ge 29, 3) := by decide +kernel
theorem d_R_digest_262 : decode prog_1_method_35_code 262 = .ok (.ldc2_w 294, 3) := by decide +kernel
theorem d_R_digest_265 : decode prog_1_method_35_code 265 = .ok (.lload_n 1, 1) := by decide +kernel
theorem d_R_digest_266 : decode prog_1_method_35_code 266 = .ok (.lmul, 1) := by decide +kernel
theorem d_R_digest_267 : decode prog_1_method_35_code 267 = .ok (.aload_n 0, 1) := by decide +kernel
theorem d_R_digest_268 : decode prog_1_method_35_code 268 = .ok (.aload_n 0, 1) := by decide +kernel
theorem d_R_digest_269 : decode prog_1_method_35_code 269 = .ok (.getfield 19, 3) := by decide +kernel
theorem d_R_digest_272 : decode prog_1_method_35_code 272 = .ok (.getfield 149, 3) := by decide +kernel
theorem d_R_digest_275 : decode prog_1_method_35_code 275 = .ok (.iload_n 3, 1) := by decide +kernel
theorem d_R_digest_276 : decode prog_1_method_35_code 276 = .ok (.invokevirtual 321, 3) := by decide +kernel
theorem d_R_digest_279 : decode prog_1_method_35_code 279 = .ok (.i2l, 1) := by decide +kernel
theorem d_R_digest_280 : decode prog_1_method_35_code 280 = .ok (.ladd, 1) := by decide +kernel
theorem d_R_digest_281 : decode prog_1_method_35_code 281 = .ok (.lstore_n 1, 1) := by decide +kernel
theorem d_R_digest_282 : decode prog_1_method_35_code 282 = .ok (.iinc 3 1, 3) := by decide +kernel
theorem d_R_digest_285 : decode prog_1_method_35_code 285 = .ok (.goto (-28), 3) := by decide +kernel
theorem d_R_digest_288 : decode prog_1_method_35_code 288 = .ok (.ldc2_w 294, 3) := by decide +kernel
theorem d_R_digest_291 : decode prog_1_method_35_code 291 = .ok (.lload_n 1, 1) := by decide +kernel
theorem d_R_digest_292 : decode prog_1_method_35_code 292 = .ok (.lmul, 1) := by decide +kernel
theorem d_R_digest_293 : decode prog_1_method_35_code 293 = .ok (.aload_n 0, 1) := by decide +kernel
theorem d_R_digest_294 : decode prog_1_method_35_code 294 = .ok (.iconst (-1), 1) := by decide +kernel
theorem d_R_digest_295 : decode prog_1_method_35_code 295 = .ok (.invokevirtual 309, 3) := by decide +kernel
theorem d_R_digest_298 : decode prog_1_method_35_code 298 = .ok (.i2l, 1) := by decide +kernel
theorem d_R_digest_299 : decode prog_1_method_35_code 299 = .ok (.ladd, 1) := by decide +kernel
theorem d_R_digest_300 : decode prog_1_method_35_code 300 = .ok (.lstore_n 1, 1) := by decide +kernel
theorem d_R_digest_301 : decode prog_1_method_35_code 301 = .ok (.ldc2_w 294, 3) := by decide +kernel
theorem d_R_digest_304 : decode prog_1_method_35_code 304 = .ok (.lload_n 1, 1) := by decide +kernel
theorem d_R_digest_305 : decode prog_1_method_35_code 305 = .ok (.lmul, 1) := by decide +kernel
theorem d_R_digest_306 : decode prog_1_method_35_code 306 = .ok (.aload_n 0, 1) := by decide +kernel
theorem d_R_digest_307 : decode prog_1_method_35_code 307 = .ok (.bipush (-2), 2) := by decide +kernel
theorem d_R_digest_309 : decode prog_1_method_35_code 309 = .ok (.invokevirtual 309, 3) := by decide +kernel
theorem d_R_digest_312 : decode prog_1_method_35_code 312 = .ok (.i2l, 1) := by decide +kernel
theorem d_R_digest_313 : decode prog_1_method_35_code 313 = .ok (.ladd, 1) := by decide +kernel
theorem d_R_digest_314 : decode prog_1_method_35_code 314 = .ok (.lstore_n 1, 1) := by decide +kernel
theorem d_R_digest_315 : decode prog_1_method_35_code 315 = .ok (.ldc2_w 294, 3) := by decide +kernel
theorem d_R_digest_318 : decode prog_1_method_35_code 318 = .ok (.lload_n 1, 1) := by decide +kernel
theorem d_R_digest_319 : decode prog_1_method_35_code 319 = .ok (.lmul, 1) := by decide +kernel
theorem d_R_digest_320 : decode prog_1_method_35_code 320 = .ok (.aload_n 0, 1) := by decide +kernel
theorem d_R_digest_321 : decode prog_1_method_35_code 321 = .ok (.iconst (-1), 1) := by decide +kernel
theorem d_R_digest_322 : decode prog_1_method_35_code 322 = .ok (.invokevirtual 312, 3) := by decide +kernel
theorem d_R_digest_325 : decode prog_1_method_35_code 325 = .ok (.i2l, 1) := by decide +kernel
theorem d_R_digest_326 : decode prog_1_method_35_code 326 = .ok (.ladd, 1) := by decide +kernel
theorem d_R_digest_327 : decode prog_1_method_35_code 327 = .ok (.lstore_n 1, 1) := by decide +kernel
theorem d_R_digest_328 : decode prog_1_method_35_code 328 = .ok (.ldc2_w 294, 3) := by decide +kernel
theorem d_R_digest_331 : decode prog_1_method_35_code 331 = .ok (.lload_n 1, 1) := by decide +kernel
theorem d_R_digest_332 : decode prog_1_method_35_code 332 = .ok (.lmul, 1) := by decide +kernel
theorem d_R_digest_333 : decode prog_1_method_35_code 333 = .ok (.aload_n 0, 1) := by decide +kernel
theorem d_R_digest_334 : decode prog_1_method_35_code 334 = .ok (.iconst (-1), 1) := by decide +kernel
theorem d_R_digest_335 : decode prog_1_method_35_code 335 = .ok (.invokevirtual 315, 3) := by decide +kernel
theorem d_R_digest_338 : decode prog_1_method_35_code 338 = .ok (.i2l, 1) := by decide +kernel
theorem d_R_digest_339 : decode prog_1_method_35_code 339 = .ok (.ladd, 1) := by decide +kernel
theorem d_R_digest_340 : decode prog_1_method_35_code 340 = .ok (.lstore_n 1, 1) := by decide +kernel
theorem d_R_digest_341 : decode prog_1_method_35_code 341 = .ok (.ldc2_w 294, 3) := by decide +kernel
theorem d_R_digest_344 : decode prog_1_method_35_code 344 = .ok (.lload_n 1, 1) := by decide +kernel
theorem d_R_digest_345 : decode prog_1_method_35_code 345 = .ok (.lmul, 1) := by decide +kernel
theorem d_R_digest_346 : decode prog_1_method_35_code 346 = .ok (.aload_n 0, 1) := by decide +kernel
theorem d_R_digest_347 : decode prog_1_method_35_code 347 = .ok (.iconst 0, 1) := by decide +kernel
theorem d_R_digest_348 : decode prog_1_method_35_code 348 = .ok (.invokevirtual 324, 3) := by decide +kernel
theorem d_R_digest_351 : decode prog_1_method_35_code 351 = .ok (.i2l, 1) := by decide +kernel
theorem d_R_digest_352 : decode prog_1_method_35_code 352 = .ok (.ladd, 1) := by decide +kernel
theorem d_R_digest_353 : decode prog_1_method_35_code 353 = .ok (.lstore_n 1, 1) := by decide +kernel
theorem d_R_digest_354 : decode prog_1_method_35_code 354 = .ok (.ldc2_w 294, 3) := by decide +kernel
theorem d_R_digest_357 : decode prog_1_method_35_code 357 = .ok (.lload_n 1, 1) := by decide +kernel
theorem d_R_digest_358 : decode prog_1_method_35_code 358 = .ok (.lmul, 1) := by decide +kernel
theorem d_R_digest_359 : decode prog_1_method_35_code 359 = .ok (.aload_n 0, 1) := by decide +kernel
theorem d_R_digest_360 : decode prog_1_method_35_code 360 = .ok (.iconst 1, 1) := by decide +kernel
theorem d_R_digest_361 : decode prog_1_method_35_code 361 = .ok (.invokevirtual 324, 3) := by decide +kernel
theorem d_R_digest_364 : decode prog_1_method_35_code 364 = .ok (.i2l, 1) := by decide +kernel
theorem d_R_digest_365 : decode prog_1_method_35_code 365 = .ok (.ladd, 1) := by decide +kernel
theorem d_R_digest_366 : decode prog_1_method_35_code 366 = .ok (.lstore_n 1, 1) := by decide +kernel
theorem d_R_digest_367 : decode prog_1_method_35_code 367 = .ok (.ldc2_w 294, 3) := by decide +kernel
theorem d_R_digest_370 : decode prog_1_method_35_code 370 = .ok (.lload_n 1, 1) := by decide +kernel
theorem d_R_digest_371 : decode prog_1_method_35_code 371 = .ok (.lmul, 1) := by decide +kernel
theorem d_R_digest_372 : decode prog_1_method_35_code 372 = .ok (.aload_n 0, 1) := by decide +kernel
theorem d_R_digest_373 : decode prog_1_method_35_code 373 = .ok (.bipush 9, 2) := by decide +kernel
theorem d_R_digest_375 : decode prog_1_method_35_code 375 = .ok (.iconst (-1), 1) := by decide +kernel
theorem d_R_digest_376 : decode prog_1_method_35_code 376 = .ok (.invokevirtual 318, 3) := by decide +kernel
theorem d_R_digest_379 : decode prog_1_method_35_code 379 = .ok (.i2l, 1) := by decide +kernel
theorem d_R_digest_380 : decode prog_1_method_35_code 380 = .ok (.ladd, 1) := by decide +kernel
theorem d_R_digest_381 : decode prog_1_method_35_code 381 = .ok (.lstore_n 1, 1) := by decide +kernel
theorem d_R_digest_382 : decode prog_1_method_35_code 382 = .ok (.ldc2_w 294, 3) := by decide +kernel
theorem d_R_digest_385 : decode prog_1_method_35_code 385 = .ok (.lload_n 1, 1) := by decide +kernel
theorem d_R_digest_386 : decode prog_1_method_35_code 386 = .ok (.lmul, 1) := by decide +kernel
theorem d_R_digest_387 : decode prog_1_method_35_code 387 = .ok (.aload_n 0, 1) := by decide +kernel
theorem d_R_digest_388 : decode prog_1_method_35_code 388 = .ok (.invokevirtual 327, 3) := by decide +kernel
theorem d_R_digest_391 : decode prog_1_method_35_code 391 = .ok (.i2l, 1) := by decide +kernel
theorem d_R_digest_392 : decode prog_1_method_35_code 392 = .ok (.ladd, 1) := by decide +kernel
theorem d_R_digest_393 : decode prog_1_method_35_code 393 = .ok (.lreturn, 1) := by decide +kernel
def b_R_digest_288 (c0 c1 c2 c3 c4 c5 c6 c7 c8 c9 c10 c11 c12 : ra_Sp) (I : Nat → ra_K) (Z : ra_R) : ra_K := w_cl 31 <| w_ll 1 <| w_l2 (fun x y => x * y) <| w_al 0 <| w_c (-1) <| w_cv c6 2 0 <| w_i2l <| w_l2 (fun x y => x + y) <| w_ls 1 <| w_cl 31 <| w_ll 1 <| w_l2 (fun x y => x * y) <| w_al 0 <| w_c (-2) <| w_cv c6 2 0 <| w_i2l <| w_l2 (fun x y => x + y) <| w_ls 1 <| w_cl 31 <| w_ll 1 <| w_l2 (fun x y => x * y) <| w_al 0 <| w_c (-1) <| w_cv c7 2 0 <| w_i2l <| w_l2 (fun x y => x + y) <| w_ls 1 <| w_cl 31 <| w_ll 1 <| w_l2 (fun x y => x * y) <| w_al 0 <| w_c (-1) <| w_cv c8 2 0 <| w_i2l <| w_l2 (fun x y => x + y) <| w_ls 1 <| w_cl 31 <| w_ll 1 <| w_l2 (fun x y => x * y) <| w_al 0 <| w_c 0 <| w_cv c11 2 0 <| w_i2l <| w_l2 (fun x y => x + y) <| w_ls 1 <| w_cl 31 <| w_ll 1 <| w_l2 (fun x y => x * y) <| w_al 0 <| w_c 1 <| w_cv c11 2 0 <| w_i2l <| w_l2 (fun x y => x + y) <| w_ls 1 <| w_cl 31 <| w_ll 1 <| w_l2 (fun x y => x * y) <| w_al 0 <| w_c 9 <| w_c (-1) <| w_cv c9 3 0 <| w_i2l <| w_l2 (fun x y => x + y) <| w_ls 1 <| w_cl 31 <| w_ll 1 <| w_l2 (fun x y => x * y) <| w_al 0 <| w_cv c12 1 0 <| w_i2l <| w_l2 (fun x y => x + y) <| w_lr Z
def b_R_digest_262 (c0 c1 c2 c3 c4 c5 c6 c7 c8 c9 c10 c11 c12 : ra_Sp) (I : Nat → ra_K) (Z : ra_R) : ra_K := w_cl 31 <| w_ll 1 <| w_l2 (fun x y => x * y) <| w_al 0 <| w_al 0 <| w_gr 0 1 <| w_gi 3 1 <| w_il 3 <| w_cv c10 3 0 <| w_i2l <| w_l2 (fun x y => x + y) <| w_ls 1 <| w_inc 3 1 <| (I 257)
def b_R_digest_257 (c0 c1 c2 c3 c4 c5 c6 c7 c8 c9 c10 c11 c12 : ra_Sp) (I : Nat → ra_K) (Z : ra_R) : ra_K := w_il 3 <| w_c 4 <| w_b2 (fun x y => y ≤ x) (b_R_digest_288 c0 c1 c2 c3 c4 c5 c6 c7 c8 c9 c10 c11 c12 I Z) (b_R_digest_262 c0 c1 c2 c3 c4 c5 c6 c7 c8 c9 c10 c11 c12 I Z)
def b_R_digest_255 (c0 c1 c2 c3 c4 c5 c6 c7 c8 c9 c10 c11 c12 : ra_Sp) (I : Nat → ra_K) (Z : ra_R) : ra_K := w_c 0 <| w_is 3 <| (I 257)
def b_R_digest_137 (c0 c1 c2 c3 c4 c5 c6 c7 c8 c9 c10 c11 c12 : ra_Sp) (I : Nat → ra_K) (Z : ra_R) : ra_K := w_cl 31 <| w_ll 1 <| w_l2 (fun x y => x * y) <| w_al 0 <| w_il 3 <| w_c 0 <| w_cv c4 3 0 <| w_i2l <| w_l2 (fun x y => x + y) <| w_ls 1 <| w_cl 31 <| w_ll 1 <| w_l2 (fun x y => x * y) <| w_al 0 <| w_il 3 <| w_c 1 <| w_cv c4 3 0 <| w_i2l <| w_l2 (fun x y => x + y) <| w_ls 1 <| w_cl 31 <| w_ll 1 <| w_l2 (fun x y => x * y) <| w_al 0 <| w_il 3 <| w_c 3 <| w_c 0 <| w_cv c5 4 0 <| w_i2l <| w_l2 (fun x y => x + y) <| w_ls 1 <| w_cl 31 <| w_ll 1 <| w_l2 (fun x y => x * y) <| w_al 0 <| w_il 3 <| w_c 3 <| w_c 1 <| w_cv c5 4 0 <| w_i2l <| w_l2 (fun x y => x + y) <| w_ls 1 <| w_cl 31 <| w_ll 1 <| w_l2 (fun x y => x * y) <| w_al 0 <| w_il 3 <| w_cv c6 2 0 <| w_i2l <| w_l2 (fun x y => x + y) <| w_ls 1 <| w_cl 31 <| w_ll 1 <| w_l2 (fun x y => x * y) <| w_al 0 <| w_il 3 <| w_cv c7 2 0 <| w_i2l <| w_l2 (fun x y => x + y) <| w_ls 1 <| w_cl 31 <| w_ll 1 <| w_l2 (fun x y => x * y) <| w_al 0 <| w_il 3 <| w_cv c8 2 0 <| w_i2l <| w_l2 (fun x y => x + y) <| w_ls 1 <| w_cl 31 <| w_ll 1 <| w_l2 (fun x y => x * y) <| w_al 0 <| w_c 9 <| w_il 3 <| w_cv c9 3 0 <| w_i2l <| w_l2 (fun x y => x + y) <| w_ls 1 <| w_inc 3 1 <| (I 59)
def b_R_digest_109 (c0 c1 c2 c3 c4 c5 c6 c7 c8 c9 c10 c11 c12 : ra_Sp) (I : Nat → ra_K) (Z : ra_R) : ra_K := w_cl 31 <| w_ll 1 <| w_l2 (fun x y => x * y) <| w_al 0 <| w_il 4 <| w_il 3 <| w_al 0 <| w_gr 0 1 <| w_gi 3 1 <| w_cv c3 4 0 <| w_i2l <| w_l2 (fun x y => x + y) <| w_ls 1 <| w_inc 4 1 <| (I 103)
def b_R_digest_103 (c0 c1 c2 c3 c4 c5 c6 c7 c8 c9 c10 c11 c12 : ra_Sp) (I : Nat → ra_K) (Z : ra_R) : ra_K := w_il 4 <| w_c 4 <| w_b2 (fun x y => y ≤ x) (b_R_digest_137 c0 c1 c2 c3 c4 c5 c6 c7 c8 c9 c10 c11 c12 I Z) (b_R_digest_109 c0 c1 c2 c3 c4 c5 c6 c7 c8 c9 c10 c11 c12 I Z)
def b_R_digest_100 (c0 c1 c2 c3 c4 c5 c6 c7 c8 c9 c10 c11 c12 : ra_Sp) (I : Nat → ra_K) (Z : ra_R) : ra_K := w_c 0 <| w_is 4 <| (I 103)
def b_R_digest_79 (c0 c1 c2 c3 c4 c5 c6 c7 c8 c9 c10 c11 c12 : ra_Sp) (I : Nat → ra_K) (Z : ra_R) : ra_K := w_cl 31 <| w_ll 1 <| w_l2 (fun x y => x * y) <| w_al 0 <| w_il 3 <| w_il 4 <| w_cv c2 3 0 <| w_i2l <| w_l2 (fun x y => x + y) <| w_ls 1 <| w_inc 4 1 <| (I 73)
def b_R_digest_73 (c0 c1 c2 c3 c4 c5 c6 c7 c8 c9 c10 c11 c12 : ra_Sp) (I : Nat → ra_K) (Z : ra_R) : ra_K := w_il 4 <| w_c 4 <| w_b2 (fun x y => y < x) (b_R_digest_100 c0 c1 c2 c3 c4 c5 c6 c7 c8 c9 c10 c11 c12 I Z) (b_R_digest_79 c0 c1 c2 c3 c4 c5 c6 c7 c8 c9 c10 c11 c12 I Z)
def b_R_digest_70 (c0 c1 c2 c3 c4 c5 c6 c7 c8 c9 c10 c11 c12 : ra_Sp) (I : Nat → ra_K) (Z : ra_R) : ra_K := w_c 0 <| w_is 4 <| (I 73)
def b_R_digest_59 (c0 c1 c2 c3 c4 c5 c6 c7 c8 c9 c10 c11 c12 : ra_Sp) (I : Nat → ra_K) (Z : ra_R) : ra_K := w_il 3 <| w_al 0 <| w_gr 0 0 <| w_gi 1 8 <| w_b2 (fun x y => y ≤ x) (b_R_digest_255 c0 c1 c2 c3 c4 c5 c6 c7 c8 c9 c10 c11 c12 I Z) (b_R_digest_70 c0 c1 c2 c3 c4 c5 c6 c7 c8 c9 c10 c11 c12 I Z)
def b_R_digest_31 (c0 c1 c2 c3 c4 c5 c6 c7 c8 c9 c10 c11 c12 : ra_Sp) (I : Nat → ra_K) (Z : ra_R) : ra_K := w_cl 31 <| w_ll 1 <| w_l2 (fun x y => x * y) <| w_al 0 <| w_c 0 <| w_cv c1 2 0 <| w_i2l <| w_l2 (fun x y => x + y) <| w_ls 1 <| w_cl 31 <| w_ll 1 <| w_l2 (fun x y => x * y) <| w_al 0 <| w_c 1 <| w_cv c1 2 0 <| w_i2l <| w_l2 (fun x y => x + y) <| w_ls 1 <| w_c 0 <| w_is 3 <| (I 59)
def b_R_digest_12 (c0 c1 c2 c3 c4 c5 c6 c7 c8 c9 c10 c11 c12 : ra_Sp) (I : Nat → ra_K) (Z : ra_R) : ra_K := w_cl 31 <| w_ll 1 <| w_l2 (fun x y => x * y) <| w_al 0 <| w_il 3 <| w_cv c0 2 0 <| w_i2l <| w_l2 (fun x y => x + y) <| w_ls 1 <| w_inc 3 1 <| (I 6)
def b_R_digest_6 (c0 c1 c2 c3 c4 c5 c6 c7 c8 c9 c10 c11 c12 : ra_Sp) (I : Nat → ra_K) (Z : ra_R) : ra_K := w_il 3 <| w_c 7 <| w_b2 (fun x y => y < x) (b_R_digest_31 c0 c1 c2 c3 c4 c5 c6 c7 c8 c9 c10 c11 c12 I Z) (b_R_digest_12 c0 c1 c2 c3 c4 c5 c6 c7 c8 c9 c10 c11 c12 I Z)
def b_R_digest_0 (c0 c1 c2 c3 c4 c5 c6 c7 c8 c9 c10 c11 c12 : ra_Sp) (I : Nat → ra_K) (Z : ra_R) : ra_K := w_cl 17 <| w_ls 1 <| w_c 0 <| w_is 3 <| (I 6)
theorem o_R_digest_288 {X : ra_X} {p : Program} {l : Launch} {e : Env} {s : State} {m : MethodId} {args : Array Value} {below : List Frame} {meth : Method} {c : Code} {Z : ra_R} {c0 c1 c2 c3 c4 c5 c6 c7 c8 c9 c10 c11 c12 : ra_Sp}  (h0 : ra_MOK l X mi_R_count c0) (h1 : ra_MOK l X mi_R_fault c1) (h2 : ra_MOK l X mi_R_house c2) (h3 : ra_MOK l X mi_R_behind c3) (h4 : ra_MOK l X mi_R_ring c4) (h5 : ra_MOK l X mi_R_dry c5) (h6 : ra_MOK l X mi_R_market c6) (h7 : ra_MOK l X mi_R_best c7) (h8 : ra_MOK l X mi_R_could c8) (h9 : ra_MOK l X mi_R_hands c9) (h10 : ra_MOK l X mi_R_all c10) (h11 : ra_MOK l X mi_R_ask c11) (h12 : ra_MOK l X mi_R_liars c12) (F : ra_Fx X p rm_R_digest s m args c prog_1_method_35_code 5 cn_R) (hr : meth.sig.returnType = (some .long)) (hlk : meth.locks = false) {I : Nat → ra_K} (hI : ∀ t ∈ [6, 59, 73, 103, 257], ra_At X p l e rm_R_digest s m args below meth c 5 (MQ below (ra_Qc X Z) args s 0 0 (ra_A X)) (I t) t) : ra_At X p l e rm_R_digest s m args below meth c 5 (MQ below (ra_Qc X Z) args s 0 0 (ra_A X)) (b_R_digest_288 c0 c1 c2 c3 c4 c5 c6 c7 c8 c9 c10 c11 c12 I Z) 288 :=
  r_ldc2 F d_R_digest_288 kc_R_294 <| r_lload_n F d_R_digest_291 rfl <| r_lmul F d_R_digest_292 <| r_aload_n F d_R_digest_293 rfl <| r_iconst F d_R_digest_294 (by decide) <| r_callV F h6 (co_R_market (by decide +kernel) (by decide +kernel)) ⟨rfl, by decide +kernel⟩ ⟨rfl, by decide⟩ ml_R_309 im_R_market se_R_market d_R_digest_295 <| r_i2l F d_R_digest_298 <| r_ladd F d_R_digest_299 <| r_lstore_n F d_R_digest_300 rfl (by decide) <| r_ldc2 F d_R_digest_301 kc_R_294 <| r_lload_n F d_R_digest_304 rfl <| r_lmul F d_R_digest_305 <| r_aload_n F d_R_digest_306 rfl <| r_bipush F d_R_digest_307 (by decide) <| r_callV F h6 (co_R_market (by decide +kernel) (by decide +kernel)) ⟨rfl, by decide +kernel⟩ ⟨rfl, by decide⟩ ml_R_309 im_R_market se_R_market d_R_digest_309 <| r_i2l F d_R_digest_312 <| r_ladd F d_R_digest_313 <| r_lstore_n F d_R_digest_314 rfl (by decide) <| r_ldc2 F d_R_digest_315 kc_R_294 <| r_lload_n F d_R_digest_318 rfl <| r_lmul F d_R_digest_319 <| r_aload_n F d_R_digest_320 rfl <| r_iconst F d_R_digest_321 (by decide) <| r_callV F h7 (co_R_best (by decide +kernel) (by decide +kernel)) ⟨rfl, by decide +kernel⟩ ⟨rfl, by decide⟩ ml_R_312 im_R_best se_R_best d_R_digest_322 <| r_i2l F d_R_digest_325 <| r_ladd F d_R_digest_326 <| r_lstore_n F d_R_digest_327 rfl (by decide) <| r_ldc2 F d_R_digest_328 kc_R_294 <| r_lload_n F d_R_digest_331 rfl <| r_lmul F d_R_digest_332 <| r_aload_n F d_R_digest_333 rfl <| r_iconst F d_R_digest_334 (by decide) <| r_callV F h8 (co_R_could (by decide +kernel) (by decide +kernel)) ⟨rfl, by decide +kernel⟩ ⟨rfl, by decide⟩ ml_R_315 im_R_could se_R_could d_R_digest_335 <| r_i2l F d_R_digest_338 <| r_ladd F d_R_digest_339 <| r_lstore_n F d_R_digest_340 rfl (by decide) <| r_ldc2 F d_R_digest_341 kc_R_294 <| r_lload_n F d_R_digest_344 rfl <| r_lmul F d_R_digest_345 <| r_aload_n F d_R_digest_346 rfl <| r_iconst F d_R_digest_347 (by decide) <| r_callV F h11 (co_R_ask (by decide +kernel) (by decide +kernel)) ⟨rfl, by decide +kernel⟩ ⟨rfl, by decide⟩ ml_R_324 im_R_ask se_R_ask d_R_digest_348 <| r_i2l F d_R_digest_351 <| r_ladd F d_R_digest_352 <| r_lstore_n F d_R_digest_353 rfl (by decide) <| r_ldc2 F d_R_digest_354 kc_R_294 <| r_lload_n F d_R_digest_357 rfl <| r_lmul F d_R_digest_358 <| r_aload_n F d_R_digest_359 rfl <| r_iconst F d_R_digest_360 (by decide) <| r_callV F h11 (co_R_ask (by decide +kernel) (by decide +kernel)) ⟨rfl, by decide +kernel⟩ ⟨rfl, by decide⟩ ml_R_324 im_R_ask se_R_ask d_R_digest_361 <| r_i2l F d_R_digest_364 <| r_ladd F d_R_digest_365 <| r_lstore_n F d_R_digest_366 rfl (by decide) <| r_ldc2 F d_R_digest_367 kc_R_294 <| r_lload_n F d_R_digest_370 rfl <| r_lmul F d_R_digest_371 <| r_aload_n F d_R_digest_372 rfl <| r_bipush F d_R_digest_373 (by decide) <| r_iconst F d_R_digest_375 (by decide) <| r_callV F h9 (co_R_hands (by decide +kernel) (by decide +kernel)) ⟨rfl, by decide +kernel⟩ ⟨rfl, by decide⟩ ml_R_318 im_R_hands se_R_hands d_R_digest_376 <| r_i2l F d_R_digest_379 <| r_ladd F d_R_digest_380 <| r_lstore_n F d_R_digest_381 rfl (by decide) <| r_ldc2 F d_R_digest_382 kc_R_294 <| r_lload_n F d_R_digest_385 rfl <| r_lmul F d_R_digest_386 <| r_aload_n F d_R_digest_387 rfl <| r_callV F h12 (co_R_liars (by decide +kernel) (by decide +kernel)) ⟨rfl, by decide +kernel⟩ ⟨rfl, by decide⟩ ml_R_327 im_R_liars se_R_liars d_R_digest_388 <| r_i2l F d_R_digest_391 <| r_ladd F d_R_digest_392 <| r_lreturn F hr hlk d_R_digest_393
theorem o_R_digest_262 {X : ra_X} {p : Program} {l : Launch} {e : Env} {s : State} {m : MethodId} {args : Array Value} {below : List Frame} {meth : Method} {c : Code} {Z : ra_R} {c0 c1 c2 c3 c4 c5 c6 c7 c8 c9 c10 c11 c12 : ra_Sp}  (h0 : ra_MOK l X mi_R_count c0) (h1 : ra_MOK l X mi_R_fault c1) (h2 : ra_MOK l X mi_R_house c2) (h3 : ra_MOK l X mi_R_behind c3) (h4 : ra_MOK l X mi_R_ring c4) (h5 : ra_MOK l X mi_R_dry c5) (h6 : ra_MOK l X mi_R_market c6) (h7 : ra_MOK l X mi_R_best c7) (h8 : ra_MOK l X mi_R_could c8) (h9 : ra_MOK l X mi_R_hands c9) (h10 : ra_MOK l X mi_R_all c10) (h11 : ra_MOK l X mi_R_ask c11) (h12 : ra_MOK l X mi_R_liars c12) (F : ra_Fx X p rm_R_digest s m args c prog_1_method_35_code 5 cn_R) (hr : meth.sig.returnType = (some .long)) (hlk : meth.locks = false) {I : Nat → ra_K} (hI : ∀ t ∈ [6, 59, 73, 103, 257], ra_At X p l e rm_R_digest s m args below meth c 5 (MQ below (ra_Qc X Z) args s 0 0 (ra_A X)) (I t) t) : ra_At X p l e rm_R_digest s m args below meth c 5 (MQ below (ra_Qc X Z) args s 0 0 (ra_A X)) (b_R_digest_262 c0 c1 c2 c3 c4 c5 c6 c7 c8 c9 c10 c11 c12 I Z) 262 :=
  r_ldc2 F d_R_digest_262 kc_R_294 <| r_lload_n F d_R_digest_265 rfl <| r_lmul F d_R_digest_266 <| r_aload_n F d_R_digest_267 rfl <| r_aload_n F d_R_digest_268 rfl <| r_getR F cg_R (j := 1) (by decide) rfl fl_R_19 d_R_digest_269 <| r_getI F cg_Wt (j := 1) (by decide) rfl fl_R_149 d_R_digest_272 <| r_iload_n F d_R_digest_275 rfl <| r_callV F h10 (co_R_all (by decide +kernel) (by decide +kernel)) ⟨rfl, by decide +kernel⟩ ⟨rfl, by decide⟩ ml_R_321 im_R_all se_R_all d_R_digest_276 <| r_i2l F d_R_digest_279 <| r_ladd F d_R_digest_280 <| r_lstore_n F d_R_digest_281 rfl (by decide) <| r_iinc F d_R_digest_282 (by decide) (by decide) <| r_goto F d_R_digest_285 (by decide) (hI 257 (by decide))
theorem o_R_digest_257 {X : ra_X} {p : Program} {l : Launch} {e : Env} {s : State} {m : MethodId} {args : Array Value} {below : List Frame} {meth : Method} {c : Code} {Z : ra_R} {c0 c1 c2 c3 c4 c5 c6 c7 c8 c9 c10 c11 c12 : ra_Sp}  (h0 : ra_MOK l X mi_R_count c0) (h1 : ra_MOK l X mi_R_fault c1) (h2 : ra_MOK l X mi_R_house c2) (h3 : ra_MOK l X mi_R_behind c3) (h4 : ra_MOK l X mi_R_ring c4) (h5 : ra_MOK l X mi_R_dry c5) (h6 : ra_MOK l X mi_R_market c6) (h7 : ra_MOK l X mi_R_best c7) (h8 : ra_MOK l X mi_R_could c8) (h9 : ra_MOK l X mi_R_hands c9) (h10 : ra_MOK l X mi_R_all c10) (h11 : ra_MOK l X mi_R_ask c11) (h12 : ra_MOK l X mi_R_liars c12) (F : ra_Fx X p rm_R_digest s m args c prog_1_method_35_code 5 cn_R) (hr : meth.sig.returnType = (some .long)) (hlk : meth.locks = false) {I : Nat → ra_K} (hI : ∀ t ∈ [6, 59, 73, 103, 257], ra_At X p l e rm_R_digest s m args below meth c 5 (MQ below (ra_Qc X Z) args s 0 0 (ra_A X)) (I t) t) : ra_At X p l e rm_R_digest s m args below meth c 5 (MQ below (ra_Qc X Z) args s 0 0 (ra_A X)) (b_R_digest_257 c0 c1 c2 c3 c4 c5 c6 c7 c8 c9 c10 c11 c12 I Z) 257 :=
  r_iload_n F d_R_digest_257 rfl <| r_iconst F d_R_digest_258 (by decide) <| r_icmp_ge F d_R_digest_259 (by decide) (o_R_digest_288 h0 h1 h2 h3 h4 h5 h6 h7 h8 h9 h10 h11 h12 F hr hlk hI) (o_R_digest_262 h0 h1 h2 h3 h4 h5 h6 h7 h8 h9 h10 h11 h12 F hr hlk hI)
theorem o_R_digest_255 {X : ra_X} {p : Program} {l : Launch} {e : Env} {s : State} {m : MethodId} {args : Array Value} {below : List Frame} {meth : Method} {c : Code} {Z : ra_R} {c0 c1 c2 c3 c4 c5 c6 c7 c8 c9 c10 c11 c12 : ra_Sp}  (h0 : ra_MOK l X mi_R_count c0) (h1 : ra_MOK l X mi_R_fault c1) (h2 : ra_MOK l X mi_R_house c2) (h3 : ra_MOK l X mi_R_behind c3) (h4 : ra_MOK l X mi_R_ring c4) (h5 : ra_MOK l X mi_R_dry c5) (h6 : ra_MOK l X mi_R_market c6) (h7 : ra_MOK l X mi_R_best c7) (h8 : ra_MOK l X mi_R_could c8) (h9 : ra_MOK l X mi_R_hands c9) (h10 : ra_MOK l X mi_R_all c10) (h11 : ra_MOK l X mi_R_ask c11) (h12 : ra_MOK l X mi_R_liars c12) (F : ra_Fx X p rm_R_digest s m args c prog_1_method_35_code 5 cn_R) (hr : meth.sig.returnType = (some .long)) (hlk : meth.locks = false) {I : Nat → ra_K} (hI : ∀ t ∈ [6, 59, 73, 103, 257], ra_At X p l e rm_R_digest s m args below meth c 5 (MQ below (ra_Qc X Z) args s 0 0 (ra_A X)) (I t) t) : ra_At X p l e rm_R_digest s m args below meth c 5 (MQ below (ra_Qc X Z) args s 0 0 (ra_A X)) (b_R_digest_255 c0 c1 c2 c3 c4 c5 c6 c7 c8 c9 c10 c11 c12 I Z) 255 :=
  r_iconst F d_R_digest_255 (by decide) <| r_istore_n F d_R_digest_256 rfl (by decide) <| (hI 257 (by decide))
theorem o_R_digest_137 {X : ra_X} {p : Program} {l : Launch} {e : Env} {s : State} {m : MethodId} {args : Array Value} {below : List Frame} {meth : Method} {c : Code} {Z : ra_R} {c0 c1 c2 c3 c4 c5 c6 c7 c8 c9 c10 c11 c12 : ra_Sp}  (h0 : ra_MOK l X mi_R_count c0) (h1 : ra_MOK l X mi_R_fault c1) (h2 : ra_MOK l X mi_R_house c2) (h3 : ra_MOK l X mi_R_behind c3) (h4 : ra_MOK l X mi_R_ring c4) (h5 : ra_MOK l X mi_R_dry c5) (h6 : ra_MOK l X mi_R_market c6) (h7 : ra_MOK l X mi_R_best c7) (h8 : ra_MOK l X mi_R_could c8) (h9 : ra_MOK l X mi_R_hands c9) (h10 : ra_MOK l X mi_R_all c10) (h11 : ra_MOK l X mi_R_ask c11) (h12 : ra_MOK l X mi_R_liars c12) (F : ra_Fx X p rm_R_digest s m args c prog_1_method_35_code 5 cn_R) (hr : meth.sig.returnType = (some .long)) (hlk : meth.locks = false) {I : Nat → ra_K} (hI : ∀ t ∈ [6, 59, 73, 103, 257], ra_At X p l e rm_R_digest s m args below meth c 5 (MQ below (ra_Qc X Z) args s 0 0 (ra_A X)) (I t) t) : ra_At X p l e rm_R_digest s m args below meth c 5 (MQ below (ra_Qc X Z) args s 0 0 (ra_A X)) (b_R_digest_137 c0 c1 c2 c3 c4 c5 c6 c7 c8 c9 c10 c11 c12 I Z) 137 :=
  r_ldc2 F d_R_digest_137 kc_R_294 <| r_lload_n F d_R_digest_140 rfl <| r_lmul F d_R_digest_141 <| r_aload_n F d_R_digest_142 rfl <| r_iload_n F d_R_digest_143 rfl <| r_iconst F d_R_digest_144 (by decide) <| r_callV F h4 (co_R_ring (by decide +kernel) (by decide +kernel)) ⟨rfl, by decide +kernel⟩ ⟨rfl, by decide⟩ ml_R_304 im_R_ring se_R_ring d_R_digest_145 <| r_i2l F d_R_digest_148 <| r_ladd F d_R_digest_149 <| r_lstore_n F d_R_digest_150 rfl (by decide) <| r_ldc2 F d_R_digest_151 kc_R_294 <| r_lload_n F d_R_digest_154 rfl <| r_lmul F d_R_digest_155 <| r_aload_n F d_R_digest_156 rfl <| r_iload_n F d_R_digest_157 rfl <| r_iconst F d_R_digest_158 (by decide) <| r_callV F h4 (co_R_ring (by decide +kernel) (by decide +kernel)) ⟨rfl, by decide +kernel⟩ ⟨rfl, by decide⟩ ml_R_304 im_R_ring se_R_ring d_R_digest_159 <| r_i2l F d_R_digest_162 <| r_ladd F d_R_digest_163 <| r_lstore_n F d_R_digest_164 rfl (by decide) <| r_ldc2 F d_R_digest_165 kc_R_294 <| r_lload_n F d_R_digest_168 rfl <| r_lmul F d_R_digest_169 <| r_aload_n F d_R_digest_170 rfl <| r_iload_n F d_R_digest_171 rfl <| r_iconst F d_R_digest_172 (by decide) <| r_iconst F d_R_digest_173 (by decide) <| r_callV F h5 (co_R_dry (by decide +kernel) (by decide +kernel)) ⟨rfl, by decide +kernel⟩ ⟨rfl, by decide⟩ ml_R_306 im_R_dry se_R_dry d_R_digest_174 <| r_i2l F d_R_digest_177 <| r_ladd F d_R_digest_178 <| r_lstore_n F d_R_digest_179 rfl (by decide) <| r_ldc2 F d_R_digest_180 kc_R_294 <| r_lload_n F d_R_digest_183 rfl <| r_lmul F d_R_digest_184 <| r_aload_n F d_R_digest_185 rfl <| r_iload_n F d_R_digest_186 rfl <| r_iconst F d_R_digest_187 (by decide) <| r_iconst F d_R_digest_188 (by decide) <| r_callV F h5 (co_R_dry (by decide +kernel) (by decide +kernel)) ⟨rfl, by decide +kernel⟩ ⟨rfl, by decide⟩ ml_R_306 im_R_dry se_R_dry d_R_digest_189 <| r_i2l F d_R_digest_192 <| r_ladd F d_R_digest_193 <| r_lstore_n F d_R_digest_194 rfl (by decide) <| r_ldc2 F d_R_digest_195 kc_R_294 <| r_lload_n F d_R_digest_198 rfl <| r_lmul F d_R_digest_199 <| r_aload_n F d_R_digest_200 rfl <| r_iload_n F d_R_digest_201 rfl <| r_callV F h6 (co_R_market (by decide +kernel) (by decide +kernel)) ⟨rfl, by decide +kernel⟩ ⟨rfl, by decide⟩ ml_R_309 im_R_market se_R_market d_R_digest_202 <| r_i2l F d_R_digest_205 <| r_ladd F d_R_digest_206 <| r_lstore_n F d_R_digest_207 rfl (by decide) <| r_ldc2 F d_R_digest_208 kc_R_294 <| r_lload_n F d_R_digest_211 rfl <| r_lmul F d_R_digest_212 <| r_aload_n F d_R_digest_213 rfl <| r_iload_n F d_R_digest_214 rfl <| r_callV F h7 (co_R_best (by decide +kernel) (by decide +kernel)) ⟨rfl, by decide +kernel⟩ ⟨rfl, by decide⟩ ml_R_312 im_R_best se_R_best d_R_digest_215 <| r_i2l F d_R_digest_218 <| r_ladd F d_R_digest_219 <| r_lstore_n F d_R_digest_220 rfl (by decide) <| r_ldc2 F d_R_digest_221 kc_R_294 <| r_lload_n F d_R_digest_224 rfl <| r_lmul F d_R_digest_225 <| r_aload_n F d_R_digest_226 rfl <| r_iload_n F d_R_digest_227 rfl <| r_callV F h8 (co_R_could (by decide +kernel) (by decide +kernel)) ⟨rfl, by decide +kernel⟩ ⟨rfl, by decide⟩ ml_R_315 im_R_could se_R_could d_R_digest_228 <| r_i2l F d_R_digest_231 <| r_ladd F d_R_digest_232 <| r_lstore_n F d_R_digest_233 rfl (by decide) <| r_ldc2 F d_R_digest_234 kc_R_294 <| r_lload_n F d_R_digest_237 rfl <| r_lmul F d_R_digest_238 <| r_aload_n F d_R_digest_239 rfl <| r_bipush F d_R_digest_240 (by decide) <| r_iload_n F d_R_digest_242 rfl <| r_callV F h9 (co_R_hands (by decide +kernel) (by decide +kernel)) ⟨rfl, by decide +kernel⟩ ⟨rfl, by decide⟩ ml_R_318 im_R_hands se_R_hands d_R_digest_243 <| r_i2l F d_R_digest_246 <| r_ladd F d_R_digest_247 <| r_lstore_n F d_R_digest_248 rfl (by decide) <| r_iinc F d_R_digest_249 (by decide) (by decide) <| r_goto F d_R_digest_252 (by decide) (hI 59 (by decide))
theorem o_R_digest_109 {X : ra_X} {p : Program} {l : Launch} {e : Env} {s : State} {m : MethodId} {args : Array Value} {below : List Frame} {meth : Method} {c : Code} {Z : ra_R} {c0 c1 c2 c3 c4 c5 c6 c7 c8 c9 c10 c11 c12 : ra_Sp}  (h0 : ra_MOK l X mi_R_count c0) (h1 : ra_MOK l X mi_R_fault c1) (h2 : ra_MOK l X mi_R_house c2) (h3 : ra_MOK l X mi_R_behind c3) (h4 : ra_MOK l X mi_R_ring c4) (h5 : ra_MOK l X mi_R_dry c5) (h6 : ra_MOK l X mi_R_market c6) (h7 : ra_MOK l X mi_R_best c7) (h8 : ra_MOK l X mi_R_could c8) (h9 : ra_MOK l X mi_R_hands c9) (h10 : ra_MOK l X mi_R_all c10) (h11 : ra_MOK l X mi_R_ask c11) (h12 : ra_MOK l X mi_R_liars c12) (F : ra_Fx X p rm_R_digest s m args c prog_1_method_35_code 5 cn_R) (hr : meth.sig.returnType = (some .long)) (hlk : meth.locks = false) {I : Nat → ra_K} (hI : ∀ t ∈ [6, 59, 73, 103, 257], ra_At X p l e rm_R_digest s m args below meth c 5 (MQ below (ra_Qc X Z) args s 0 0 (ra_A X)) (I t) t) : ra_At X p l e rm_R_digest s m args below meth c 5 (MQ below (ra_Qc X Z) args s 0 0 (ra_A X)) (b_R_digest_109 c0 c1 c2 c3 c4 c5 c6 c7 c8 c9 c10 c11 c12 I Z) 109 :=
  r_ldc2 F d_R_digest_109 kc_R_294 <| r_lload_n F d_R_digest_112 rfl <| r_lmul F d_R_digest_113 <| r_aload_n F d_R_digest_114 rfl <| r_iload F d_R_digest_115 <| r_iload_n F d_R_digest_117 rfl <| r_aload_n F d_R_digest_118 rfl <| r_getR F cg_R (j := 1) (by decide) rfl fl_R_19 d_R_digest_119 <| r_getI F cg_Wt (j := 1) (by decide) rfl fl_R_149 d_R_digest_122 <| r_callV F h3 (co_R_behind (by decide +kernel) (by decide +kernel)) ⟨rfl, by decide +kernel⟩ ⟨rfl, by decide⟩ ml_R_145 im_R_behind se_R_behind d_R_digest_125 <| r_i2l F d_R_digest_128 <| r_ladd F d_R_digest_129 <| r_lstore_n F d_R_digest_130 rfl (by decide) <| r_iinc F d_R_digest_131 (by decide) (by decide) <| r_goto F d_R_digest_134 (by decide) (hI 103 (by decide))
theorem o_R_digest_103 {X : ra_X} {p : Program} {l : Launch} {e : Env} {s : State} {m : MethodId} {args : Array Value} {below : List Frame} {meth : Method} {c : Code} {Z : ra_R} {c0 c1 c2 c3 c4 c5 c6 c7 c8 c9 c10 c11 c12 : ra_Sp}  (h0 : ra_MOK l X mi_R_count c0) (h1 : ra_MOK l X mi_R_fault c1) (h2 : ra_MOK l X mi_R_house c2) (h3 : ra_MOK l X mi_R_behind c3) (h4 : ra_MOK l X mi_R_ring c4) (h5 : ra_MOK l X mi_R_dry c5) (h6 : ra_MOK l X mi_R_market c6) (h7 : ra_MOK l X mi_R_best c7) (h8 : ra_MOK l X mi_R_could c8) (h9 : ra_MOK l X mi_R_hands c9) (h10 : ra_MOK l X mi_R_all c10) (h11 : ra_MOK l X mi_R_ask c11) (h12 : ra_MOK l X mi_R_liars c12) (F : ra_Fx X p rm_R_digest s m args c prog_1_method_35_code 5 cn_R) (hr : meth.sig.returnType = (some .long)) (hlk : meth.locks = false) {I : Nat → ra_K} (hI : ∀ t ∈ [6, 59, 73, 103, 257], ra_At X p l e rm_R_digest s m args below meth c 5 (MQ below (ra_Qc X Z) args s 0 0 (ra_A X)) (I t) t) : ra_At X p l e rm_R_digest s m args below meth c 5 (MQ below (ra_Qc X Z) args s 0 0 (ra_A X)) (b_R_digest_103 c0 c1 c2 c3 c4 c5 c6 c7 c8 c9 c10 c11 c12 I Z) 103 :=
  r_iload F d_R_digest_103 <| r_iconst F d_R_digest_105 (by decide) <| r_icmp_ge F d_R_digest_106 (by decide) (o_R_digest_137 h0 h1 h2 h3 h4 h5 h6 h7 h8 h9 h10 h11 h12 F hr hlk hI) (o_R_digest_109 h0 h1 h2 h3 h4 h5 h6 h7 h8 h9 h10 h11 h12 F hr hlk hI)
theorem o_R_digest_100 {X : ra_X} {p : Program} {l : Launch} {e : Env} {s : State} {m : MethodId} {args : Array Value} {below : List Frame} {meth : Method} {c : Code} {Z : ra_R} {c0 c1 c2 c3 c4 c5 c6 c7 c8 c9 c10 c11 c12 : ra_Sp}  (h0 : ra_MOK l X mi_R_count c0) (h1 : ra_MOK l X mi_R_fault c1) (h2 : ra_MOK l X mi_R_house c2) (h3 : ra_MOK l X mi_R_behind c3) (h4 : ra_MOK l X mi_R_ring c4) (h5 : ra_MOK l X mi_R_dry c5) (h6 : ra_MOK l X mi_R_market c6) (h7 : ra_MOK l X mi_R_best c7) (h8 : ra_MOK l X mi_R_could c8) (h9 : ra_MOK l X mi_R_hands c9) (h10 : ra_MOK l X mi_R_all c10) (h11 : ra_MOK l X mi_R_ask c11) (h12 : ra_MOK l X mi_R_liars c12) (F : ra_Fx X p rm_R_digest s m args c prog_1_method_35_code 5 cn_R) (hr : meth.sig.returnType = (some .long)) (hlk : meth.locks = false) {I : Nat → ra_K} (hI : ∀ t ∈ [6, 59, 73, 103, 257], ra_At X p l e rm_R_digest s m args below meth c 5 (MQ below (ra_Qc X Z) args s 0 0 (ra_A X)) (I t) t) : ra_At X p l e rm_R_digest s m args below meth c 5 (MQ below (ra_Qc X Z) args s 0 0 (ra_A X)) (b_R_digest_100 c0 c1 c2 c3 c4 c5 c6 c7 c8 c9 c10 c11 c12 I Z) 100 :=
  r_iconst F d_R_digest_100 (by decide) <| r_istore F d_R_digest_101 (by decide) <| (hI 103 (by decide))
theorem o_R_digest_79 {X : ra_X} {p : Program} {l : Launch} {e : Env} {s : State} {m : MethodId} {args : Array Value} {below : List Frame} {meth : Method} {c : Code} {Z : ra_R} {c0 c1 c2 c3 c4 c5 c6 c7 c8 c9 c10 c11 c12 : ra_Sp}  (h0 : ra_MOK l X mi_R_count c0) (h1 : ra_MOK l X mi_R_fault c1) (h2 : ra_MOK l X mi_R_house c2) (h3 : ra_MOK l X mi_R_behind c3) (h4 : ra_MOK l X mi_R_ring c4) (h5 : ra_MOK l X mi_R_dry c5) (h6 : ra_MOK l X mi_R_market c6) (h7 : ra_MOK l X mi_R_best c7) (h8 : ra_MOK l X mi_R_could c8) (h9 : ra_MOK l X mi_R_hands c9) (h10 : ra_MOK l X mi_R_all c10) (h11 : ra_MOK l X mi_R_ask c11) (h12 : ra_MOK l X mi_R_liars c12) (F : ra_Fx X p rm_R_digest s m args c prog_1_method_35_code 5 cn_R) (hr : meth.sig.returnType = (some .long)) (hlk : meth.locks = false) {I : Nat → ra_K} (hI : ∀ t ∈ [6, 59, 73, 103, 257], ra_At X p l e rm_R_digest s m args below meth c 5 (MQ below (ra_Qc X Z) args s 0 0 (ra_A X)) (I t) t) : ra_At X p l e rm_R_digest s m args below meth c 5 (MQ below (ra_Qc X Z) args s 0 0 (ra_A X)) (b_R_digest_79 c0 c1 c2 c3 c4 c5 c6 c7 c8 c9 c10 c11 c12 I Z) 79 :=
  r_ldc2 F d_R_digest_79 kc_R_294 <| r_lload_n F d_R_digest_82 rfl <| r_lmul F d_R_digest_83 <| r_aload_n F d_R_digest_84 rfl <| r_iload_n F d_R_digest_85 rfl <| r_iload F d_R_digest_86 <| r_callV F h2 (co_R_house (by decide +kernel) (by decide +kernel)) ⟨rfl, by decide +kernel⟩ ⟨rfl, by decide⟩ ml_R_301 im_R_house se_R_house d_R_digest_88 <| r_i2l F d_R_digest_91 <| r_ladd F d_R_digest_92 <| r_lstore_n F d_R_digest_93 rfl (by decide) <| r_iinc F d_R_digest_94 (by decide) (by decide) <| r_goto F d_R_digest_97 (by decide) (hI 73 (by decide))
theorem o_R_digest_73 {X : ra_X} {p : Program} {l : Launch} {e : Env} {s : State} {m : MethodId} {args : Array Value} {below : List Frame} {meth : Method} {c : Code} {Z : ra_R} {c0 c1 c2 c3 c4 c5 c6 c7 c8 c9 c10 c11 c12 : ra_Sp}  (h0 : ra_MOK l X mi_R_count c0) (h1 : ra_MOK l X mi_R_fault c1) (h2 : ra_MOK l X mi_R_house c2) (h3 : ra_MOK l X mi_R_behind c3) (h4 : ra_MOK l X mi_R_ring c4) (h5 : ra_MOK l X mi_R_dry c5) (h6 : ra_MOK l X mi_R_market c6) (h7 : ra_MOK l X mi_R_best c7) (h8 : ra_MOK l X mi_R_could c8) (h9 : ra_MOK l X mi_R_hands c9) (h10 : ra_MOK l X mi_R_all c10) (h11 : ra_MOK l X mi_R_ask c11) (h12 : ra_MOK l X mi_R_liars c12) (F : ra_Fx X p rm_R_digest s m args c prog_1_method_35_code 5 cn_R) (hr : meth.sig.returnType = (some .long)) (hlk : meth.locks = false) {I : Nat → ra_K} (hI : ∀ t ∈ [6, 59, 73, 103, 257], ra_At X p l e rm_R_digest s m args below meth c 5 (MQ below (ra_Qc X Z) args s 0 0 (ra_A X)) (I t) t) : ra_At X p l e rm_R_digest s m args below meth c 5 (MQ below (ra_Qc X Z) args s 0 0 (ra_A X)) (b_R_digest_73 c0 c1 c2 c3 c4 c5 c6 c7 c8 c9 c10 c11 c12 I Z) 73 :=
  r_iload F d_R_digest_73 <| r_iconst F d_R_digest_75 (by decide) <| r_icmp_gt F d_R_digest_76 (by decide) (o_R_digest_100 h0 h1 h2 h3 h4 h5 h6 h7 h8 h9 h10 h11 h12 F hr hlk hI) (o_R_digest_79 h0 h1 h2 h3 h4 h5 h6 h7 h8 h9 h10 h11 h12 F hr hlk hI)
theorem o_R_digest_70 {X : ra_X} {p : Program} {l : Launch} {e : Env} {s : State} {m : MethodId} {args : Array Value} {below : List Frame} {meth : Method} {c : Code} {Z : ra_R} {c0 c1 c2 c3 c4 c5 c6 c7 c8 c9 c10 c11 c12 : ra_Sp}  (h0 : ra_MOK l X mi_R_count c0) (h1 : ra_MOK l X mi_R_fault c1) (h2 : ra_MOK l X mi_R_house c2) (h3 : ra_MOK l X mi_R_behind c3) (h4 : ra_MOK l X mi_R_ring c4) (h5 : ra_MOK l X mi_R_dry c5) (h6 : ra_MOK l X mi_R_market c6) (h7 : ra_MOK l X mi_R_best c7) (h8 : ra_MOK l X mi_R_could c8) (h9 : ra_MOK l X mi_R_hands c9) (h10 : ra_MOK l X mi_R_all c10) (h11 : ra_MOK l X mi_R_ask c11) (h12 : ra_MOK l X mi_R_liars c12) (F : ra_Fx X p rm_R_digest s m args c prog_1_method_35_code 5 cn_R) (hr : meth.sig.returnType = (some .long)) (hlk : meth.locks = false) {I : Nat → ra_K} (hI : ∀ t ∈ [6, 59, 73, 103, 257], ra_At X p l e rm_R_digest s m args below meth c 5 (MQ below (ra_Qc X Z) args s 0 0 (ra_A X)) (I t) t) : ra_At X p l e rm_R_digest s m args below meth c 5 (MQ below (ra_Qc X Z) args s 0 0 (ra_A X)) (b_R_digest_70 c0 c1 c2 c3 c4 c5 c6 c7 c8 c9 c10 c11 c12 I Z) 70 :=
  r_iconst F d_R_digest_70 (by decide) <| r_istore F d_R_digest_71 (by decide) <| (hI 73 (by decide))
theorem o_R_digest_59 {X : ra_X} {p : Program} {l : Launch} {e : Env} {s : State} {m : MethodId} {args : Array Value} {below : List Frame} {meth : Method} {c : Code} {Z : ra_R} {c0 c1 c2 c3 c4 c5 c6 c7 c8 c9 c10 c11 c12 : ra_Sp}  (h0 : ra_MOK l X mi_R_count c0) (h1 : ra_MOK l X mi_R_fault c1) (h2 : ra_MOK l X mi_R_house c2) (h3 : ra_MOK l X mi_R_behind c3) (h4 : ra_MOK l X mi_R_ring c4) (h5 : ra_MOK l X mi_R_dry c5) (h6 : ra_MOK l X mi_R_market c6) (h7 : ra_MOK l X mi_R_best c7) (h8 : ra_MOK l X mi_R_could c8) (h9 : ra_MOK l X mi_R_hands c9) (h10 : ra_MOK l X mi_R_all c10) (h11 : ra_MOK l X mi_R_ask c11) (h12 : ra_MOK l X mi_R_liars c12) (F : ra_Fx X p rm_R_digest s m args c prog_1_method_35_code 5 cn_R) (hr : meth.sig.returnType = (some .long)) (hlk : meth.locks = false) {I : Nat → ra_K} (hI : ∀ t ∈ [6, 59, 73, 103, 257], ra_At X p l e rm_R_digest s m args below meth c 5 (MQ below (ra_Qc X Z) args s 0 0 (ra_A X)) (I t) t) : ra_At X p l e rm_R_digest s m args below meth c 5 (MQ below (ra_Qc X Z) args s 0 0 (ra_A X)) (b_R_digest_59 c0 c1 c2 c3 c4 c5 c6 c7 c8 c9 c10 c11 c12 I Z) 59 :=
  r_iload_n F d_R_digest_59 rfl <| r_aload_n F d_R_digest_60 rfl <| r_getR F cg_R (j := 0) (by decide) rfl fl_R_12 d_R_digest_61 <| r_getI F cg_V (j := 8) (by decide) rfl fl_R_152 d_R_digest_64 <| r_icmp_ge F d_R_digest_67 (by decide) (o_R_digest_255 h0 h1 h2 h3 h4 h5 h6 h7 h8 h9 h10 h11 h12 F hr hlk hI) (o_R_digest_70 h0 h1 h2 h3 h4 h5 h6 h7 h8 h9 h10 h11 h12 F hr hlk hI)
theorem o_R_digest_31 {X : ra_X} {p : Program} {l : Launch} {e : Env} {s : State} {m : MethodId} {args : Array Value} {below : List Frame} {meth : Method} {c : Code} {Z : ra_R} {c0 c1 c2 c3 c4 c5 c6 c7 c8 c9 c10 c11 c12 : ra_Sp}  (h0 : ra_MOK l X mi_R_count c0) (h1 : ra_MOK l X mi_R_fault c1) (h2 : ra_MOK l X mi_R_house c2) (h3 : ra_MOK l X mi_R_behind c3) (h4 : ra_MOK l X mi_R_ring c4) (h5 : ra_MOK l X mi_R_dry c5) (h6 : ra_MOK l X mi_R_market c6) (h7 : ra_MOK l X mi_R_best c7) (h8 : ra_MOK l X mi_R_could c8) (h9 : ra_MOK l X mi_R_hands c9) (h10 : ra_MOK l X mi_R_all c10) (h11 : ra_MOK l X mi_R_ask c11) (h12 : ra_MOK l X mi_R_liars c12) (F : ra_Fx X p rm_R_digest s m args c prog_1_method_35_code 5 cn_R) (hr : meth.sig.returnType = (some .long)) (hlk : meth.locks = false) {I : Nat → ra_K} (hI : ∀ t ∈ [6, 59, 73, 103, 257], ra_At X p l e rm_R_digest s m args below meth c 5 (MQ below (ra_Qc X Z) args s 0 0 (ra_A X)) (I t) t) : ra_At X p l e rm_R_digest s m args below meth c 5 (MQ below (ra_Qc X Z) args s 0 0 (ra_A X)) (b_R_digest_31 c0 c1 c2 c3 c4 c5 c6 c7 c8 c9 c10 c11 c12 I Z) 31 :=
  r_ldc2 F d_R_digest_31 kc_R_294 <| r_lload_n F d_R_digest_34 rfl <| r_lmul F d_R_digest_35 <| r_aload_n F d_R_digest_36 rfl <| r_iconst F d_R_digest_37 (by decide) <| r_callV F h1 (co_R_fault (by decide +kernel) (by decide +kernel)) ⟨rfl, by decide +kernel⟩ ⟨rfl, by decide⟩ ml_R_298 im_R_fault se_R_fault d_R_digest_38 <| r_i2l F d_R_digest_41 <| r_ladd F d_R_digest_42 <| r_lstore_n F d_R_digest_43 rfl (by decide) <| r_ldc2 F d_R_digest_44 kc_R_294 <| r_lload_n F d_R_digest_47 rfl <| r_lmul F d_R_digest_48 <| r_aload_n F d_R_digest_49 rfl <| r_iconst F d_R_digest_50 (by decide) <| r_callV F h1 (co_R_fault (by decide +kernel) (by decide +kernel)) ⟨rfl, by decide +kernel⟩ ⟨rfl, by decide⟩ ml_R_298 im_R_fault se_R_fault d_R_digest_51 <| r_i2l F d_R_digest_54 <| r_ladd F d_R_digest_55 <| r_lstore_n F d_R_digest_56 rfl (by decide) <| r_iconst F d_R_digest_57 (by decide) <| r_istore_n F d_R_digest_58 rfl (by decide) <| (hI 59 (by decide))
theorem o_R_digest_12 {X : ra_X} {p : Program} {l : Launch} {e : Env} {s : State} {m : MethodId} {args : Array Value} {below : List Frame} {meth : Method} {c : Code} {Z : ra_R} {c0 c1 c2 c3 c4 c5 c6 c7 c8 c9 c10 c11 c12 : ra_Sp}  (h0 : ra_MOK l X mi_R_count c0) (h1 : ra_MOK l X mi_R_fault c1) (h2 : ra_MOK l X mi_R_house c2) (h3 : ra_MOK l X mi_R_behind c3) (h4 : ra_MOK l X mi_R_ring c4) (h5 : ra_MOK l X mi_R_dry c5) (h6 : ra_MOK l X mi_R_market c6) (h7 : ra_MOK l X mi_R_best c7) (h8 : ra_MOK l X mi_R_could c8) (h9 : ra_MOK l X mi_R_hands c9) (h10 : ra_MOK l X mi_R_all c10) (h11 : ra_MOK l X mi_R_ask c11) (h12 : ra_MOK l X mi_R_liars c12) (F : ra_Fx X p rm_R_digest s m args c prog_1_method_35_code 5 cn_R) (hr : meth.sig.returnType = (some .long)) (hlk : meth.locks = false) {I : Nat → ra_K} (hI : ∀ t ∈ [6, 59, 73, 103, 257], ra_At X p l e rm_R_digest s m args below meth c 5 (MQ below (ra_Qc X Z) args s 0 0 (ra_A X)) (I t) t) : ra_At X p l e rm_R_digest s m args below meth c 5 (MQ below (ra_Qc X Z) args s 0 0 (ra_A X)) (b_R_digest_12 c0 c1 c2 c3 c4 c5 c6 c7 c8 c9 c10 c11 c12 I Z) 12 :=
  r_ldc2 F d_R_digest_12 kc_R_294 <| r_lload_n F d_R_digest_15 rfl <| r_lmul F d_R_digest_16 <| r_aload_n F d_R_digest_17 rfl <| r_iload_n F d_R_digest_18 rfl <| r_callV F h0 (co_R_count (by decide +kernel) (by decide +kernel)) ⟨rfl, by decide +kernel⟩ ⟨rfl, by decide⟩ ml_R_296 im_R_count se_R_count d_R_digest_19 <| r_i2l F d_R_digest_22 <| r_ladd F d_R_digest_23 <| r_lstore_n F d_R_digest_24 rfl (by decide) <| r_iinc F d_R_digest_25 (by decide) (by decide) <| r_goto F d_R_digest_28 (by decide) (hI 6 (by decide))
theorem o_R_digest_6 {X : ra_X} {p : Program} {l : Launch} {e : Env} {s : State} {m : MethodId} {args : Array Value} {below : List Frame} {meth : Method} {c : Code} {Z : ra_R} {c0 c1 c2 c3 c4 c5 c6 c7 c8 c9 c10 c11 c12 : ra_Sp}  (h0 : ra_MOK l X mi_R_count c0) (h1 : ra_MOK l X mi_R_fault c1) (h2 : ra_MOK l X mi_R_house c2) (h3 : ra_MOK l X mi_R_behind c3) (h4 : ra_MOK l X mi_R_ring c4) (h5 : ra_MOK l X mi_R_dry c5) (h6 : ra_MOK l X mi_R_market c6) (h7 : ra_MOK l X mi_R_best c7) (h8 : ra_MOK l X mi_R_could c8) (h9 : ra_MOK l X mi_R_hands c9) (h10 : ra_MOK l X mi_R_all c10) (h11 : ra_MOK l X mi_R_ask c11) (h12 : ra_MOK l X mi_R_liars c12) (F : ra_Fx X p rm_R_digest s m args c prog_1_method_35_code 5 cn_R) (hr : meth.sig.returnType = (some .long)) (hlk : meth.locks = false) {I : Nat → ra_K} (hI : ∀ t ∈ [6, 59, 73, 103, 257], ra_At X p l e rm_R_digest s m args below meth c 5 (MQ below (ra_Qc X Z) args s 0 0 (ra_A X)) (I t) t) : ra_At X p l e rm_R_digest s m args below meth c 5 (MQ below (ra_Qc X Z) args s 0 0 (ra_A X)) (b_R_digest_6 c0 c1 c2 c3 c4 c5 c6 c7 c8 c9 c10 c11 c12 I Z) 6 :=
  r_iload_n F d_R_digest_6 rfl <| r_bipush F d_R_digest_7 (by decide) <| r_icmp_gt F d_R_digest_9 (by decide) (o_R_digest_31 h0 h1 h2 h3 h4 h5 h6 h7 h8 h9 h10 h11 h12 F hr hlk hI) (o_R_digest_12 h0 h1 h2 h3 h4 h5 h6 h7 h8 h9 h10 h11 h12 F hr hlk hI)
theorem o_R_digest_0 {X : ra_X} {p : Program} {l : Launch} {e : Env} {s : State} {m : MethodId} {args : Array Value} {below : List Frame} {meth : Method} {c : Code} {Z : ra_R} {c0 c1 c2 c3 c4 c5 c6 c7 c8 c9 c10 c11 c12 : ra_Sp}  (h0 : ra_MOK l X mi_R_count c0) (h1 : ra_MOK l X mi_R_fault c1) (h2 : ra_MOK l X mi_R_house c2) (h3 : ra_MOK l X mi_R_behind c3) (h4 : ra_MOK l X mi_R_ring c4) (h5 : ra_MOK l X mi_R_dry c5) (h6 : ra_MOK l X mi_R_market c6) (h7 : ra_MOK l X mi_R_best c7) (h8 : ra_MOK l X mi_R_could c8) (h9 : ra_MOK l X mi_R_hands c9) (h10 : ra_MOK l X mi_R_all c10) (h11 : ra_MOK l X mi_R_ask c11) (h12 : ra_MOK l X mi_R_liars c12) (F : ra_Fx X p rm_R_digest s m args c prog_1_method_35_code 5 cn_R) (hr : meth.sig.returnType = (some .long)) (hlk : meth.locks = false) {I : Nat → ra_K} (hI : ∀ t ∈ [6, 59, 73, 103, 257], ra_At X p l e rm_R_digest s m args below meth c 5 (MQ below (ra_Qc X Z) args s 0 0 (ra_A X)) (I t) t) : ra_At X p l e rm_R_digest s m args below meth c 5 (MQ below (ra_Qc X Z) args s 0 0 (ra_A X)) (b_R_digest_0 c0 c1 c2 c3 c4 c5 c6 c7 c8 c9 c10 c11 c12 I Z) 0 :=
  r_ldc2 F d_R_digest_0 kc_R_292 <| r_lstore_n F d_R_digest_3 rfl (by decide) <| r_iconst F d_R_digest_4 (by decide) <| r_istore_n F d_R_digest_5 rfl (by decide) <| (hI 6 (by decide))
theorem g_R_digest {l : Launch} {X : ra_X} {c0 c1 c2 c3 c4 c5 c6 c7 c8 c9 c10 c11 c12 : ra_Sp}  (h0 : ra_MOK l X mi_R_count c0) (h1 : ra_MOK l X mi_R_fault c1) (h2 : ra_MOK l X mi_R_house c2) (h3 : ra_MOK l X mi_R_behind c3) (h4 : ra_MOK l X mi_R_ring c4) (h5 : ra_MOK l X mi_R_dry c5) (h6 : ra_MOK l X mi_R_market c6) (h7 : ra_MOK l X mi_R_best c7) (h8 : ra_MOK l X mi_R_could c8) (h9 : ra_MOK l X mi_R_hands c9) (h10 : ra_MOK l X mi_R_all c10) (h11 : ra_MOK l X mi_R_ask c11) (h12 : ra_MOK l X mi_R_liars c12) (sp : ra_Sp) (I : ra_R → List Value → ra_St → Nat → ra_M → ra_K) (ve : ∀ as σ Z, ra_c1 as = true → as.length = 1 → sp as σ Z → b_R_digest_0 c0 c1 c2 c3 c4 c5 c6 c7 c8 c9 c10 c11 c12 (ra_I (I Z as σ)) Z (ra_pad 5 as) [] σ) (v6 : ∀ as σ Z, sp as σ Z → ∀ μ L S σ1, I Z as σ 6 μ L S σ1 → b_R_digest_6 c0 c1 c2 c3 c4 c5 c6 c7 c8 c9 c10 c11 c12 (ra_J (I Z as σ) μ) Z L S σ1) (v59 : ∀ as σ Z, sp as σ Z → ∀ μ L S σ1, I Z as σ 59 μ L S σ1 → b_R_digest_59 c0 c1 c2 c3 c4 c5 c6 c7 c8 c9 c10 c11 c12 (ra_J (I Z as σ) μ) Z L S σ1) (v73 : ∀ as σ Z, sp as σ Z → ∀ μ L S σ1, I Z as σ 73 μ L S σ1 → b_R_digest_73 c0 c1 c2 c3 c4 c5 c6 c7 c8 c9 c10 c11 c12 (ra_J (I Z as σ) μ) Z L S σ1) (v103 : ∀ as σ Z, sp as σ Z → ∀ μ L S σ1, I Z as σ 103 μ L S σ1 → b_R_digest_103 c0 c1 c2 c3 c4 c5 c6 c7 c8 c9 c10 c11 c12 (ra_J (I Z as σ) μ) Z L S σ1) (v257 : ∀ as σ Z, sp as σ Z → ∀ μ L S σ1, I Z as σ 257 μ L S σ1 → b_R_digest_257 c0 c1 c2 c3 c4 c5 c6 c7 c8 c9 c10 c11 c12 (ra_J (I Z as σ) μ) Z L S σ1) : ra_MOK l X mi_R_digest sp := by
  refine ra_enter (k := fun Z as σ => b_R_digest_0 c0 c1 c2 c3 c4 c5 c6 c7 c8 c9 c10 c11 c12 (ra_I (I Z as σ)) Z) cn_R rfl (by decide +kernel) ⟨by decide +kernel, by decide +kernel⟩ (by decide +kernel) ?_ ve
  intro p e s m args below meth c Z as σ hsp F hr hlk
  refine o_R_digest_0 h0 h1 h2 h3 h4 h5 h6 h7 h8 h9 h10 h11 h12 F hr hlk (ra_cuts (b := fun t J => if t = 6 then b_R_digest_6 c0 c1 c2 c3 c4 c5 c6 c7 c8 c9 c10 c11 c12 J Z else if t = 59 then b_R_digest_59 c0 c1 c2 c3 c4 c5 c6 c7 c8 c9 c10 c11 c12 J Z else if t = 73 then b_R_digest_73 c0 c1 c2 c3 c4 c5 c6 c7 c8 c9 c10 c11 c12 J Z else if t = 103 then b_R_digest_103 c0 c1 c2 c3 c4 c5 c6 c7 c8 c9 c10 c11 c12 J Z else if t = 257 then b_R_digest_257 c0 c1 c2 c3 c4 c5 c6 c7 c8 c9 c10 c11 c12 J Z else fun _ _ _ => False) ?_ ?_)
  · intro t ht J hJ
    simp only [List.mem_cons, List.not_mem_nil, or_false] at ht
    rcases ht with rfl | rfl | rfl | rfl | rfl
    · exact o_R_digest_6 h0 h1 h2 h3 h4 h5 h6 h7 h8 h9 h10 h11 h12 F hr hlk hJ
    · exact o_R_digest_59 h0 h1 h2 h3 h4 h5 h6 h7 h8 h9 h10 h11 h12 F hr hlk hJ
    · exact o_R_digest_73 h0 h1 h2 h3 h4 h5 h6 h7 h8 h9 h10 h11 h12 F hr hlk hJ
    · exact o_R_digest_103 h0 h1 h2 h3 h4 h5 h6 h7 h8 h9 h10 h11 h12 F hr hlk hJ
    · exact o_R_digest_257 h0 h1 h2 h3 h4 h5 h6 h7 h8 h9 h10 h11 h12 F hr hlk hJ
  · intro t ht μ L S σ1 hI
    simp only [List.mem_cons, List.not_mem_nil, or_false] at ht
    rcases ht with rfl | rfl | rfl | rfl | rfl
    · exact v6 as σ Z hsp μ L S σ1 hI
    · exact v59 as σ Z hsp μ L S σ1 hI
    · exact v73 as σ Z hsp μ L S σ1 hI
    · exact v103 as σ Z hsp μ L S σ1 hI
    · exact v257 as σ Z hsp μ L S σ1 hI

theorem d_N_in_0 : decode prog_13_method_3_code 0 = .ok (.iload_n 0, 1) := by decide +kernel
theorem d_N_in_1 : decode prog_13_method_3_code 1 = .ok (.iload_n 1, 1) := by decide +kernel
theorem d_N_in_2 : decode prog_13_method_3_code 2 = .ok (.if_icmp .lt 12, 3) := by decide +kernel
theorem d_N_in_5 : decode prog_13_method_3_code 5 = .ok (.iload_n 0, 1) := by decide +kernel
theorem d_N_in_6 : decode prog_13_method_3_code 6 = .ok (.iload_n 2, 1) := by decide +kernel
theorem d_N_in_7 : decode prog_13_method_3_code 7 = .ok (.if_icmp .gt 7, 3) := by decide +kernel
theorem d_N_in_10 : decode prog_13_method_3_code 10 = .ok (.iconst 1, 1) := by decide +kernel
theorem d_N_in_11 : decode prog_13_method_3_code 11 = .ok (.goto 4, 3) := by decide +kernel
theorem d_N_in_14 : decode prog_13_method_3_code 14 = .ok (.iconst 0, 1) := by decide +kernel
theorem d_N_in_15 : decode prog_13_method_3_code 15 = .ok (.ireturn, 1) := by decide +kernel
def b_N_in_15 (Z : ra_R) : ra_K := w_zr Z
def b_N_in_14 (Z : ra_R) : ra_K := w_c 0 <| (b_N_in_15 Z)
def b_N_in_10 (Z : ra_R) : ra_K := w_c 1 <| (b_N_in_15 Z)
def b_N_in_5 (Z : ra_R) : ra_K := w_il 0 <| w_il 2 <| w_b2 (fun x y => y < x) (b_N_in_14 Z) (b_N_in_10 Z)
def b_N_in_0 (Z : ra_R) : ra_K := w_il 0 <| w_il 1 <| w_b2 (fun x y => x < y) (b_N_in_14 Z) (b_N_in_5 Z)
theorem o_N_in_15 {X : ra_X} {p : Program} {l : Launch} {e : Env} {s : State} {m : MethodId} {args : Array Value} {below : List Frame} {meth : Method} {c : Code} {Z : ra_R}  (F : ra_Fx X p rm_N_in s m args c prog_13_method_3_code 3 cn_N) (hr : meth.sig.returnType = (some .boolean)) (hlk : meth.locks = false) : ra_At X p l e rm_N_in s m args below meth c 3 (MQ below (ra_Qc X Z) args s 0 0 (ra_A X)) (b_N_in_15 Z) 15 :=
  r_zreturn F hr hlk d_N_in_15
theorem o_N_in_14 {X : ra_X} {p : Program} {l : Launch} {e : Env} {s : State} {m : MethodId} {args : Array Value} {below : List Frame} {meth : Method} {c : Code} {Z : ra_R}  (F : ra_Fx X p rm_N_in s m args c prog_13_method_3_code 3 cn_N) (hr : meth.sig.returnType = (some .boolean)) (hlk : meth.locks = false) : ra_At X p l e rm_N_in s m args below meth c 3 (MQ below (ra_Qc X Z) args s 0 0 (ra_A X)) (b_N_in_14 Z) 14 :=
  r_iconst F d_N_in_14 (by decide) <| (o_N_in_15 F hr hlk)
theorem o_N_in_10 {X : ra_X} {p : Program} {l : Launch} {e : Env} {s : State} {m : MethodId} {args : Array Value} {below : List Frame} {meth : Method} {c : Code} {Z : ra_R}  (F : ra_Fx X p rm_N_in s m args c prog_13_method_3_code 3 cn_N) (hr : meth.sig.returnType = (some .boolean)) (hlk : meth.locks = false) : ra_At X p l e rm_N_in s m args below meth c 3 (MQ below (ra_Qc X Z) args s 0 0 (ra_A X)) (b_N_in_10 Z) 10 :=
  r_iconst F d_N_in_10 (by decide) <| r_goto F d_N_in_11 (by decide) (o_N_in_15 F hr hlk)
theorem o_N_in_5 {X : ra_X} {p : Program} {l : Launch} {e : Env} {s : State} {m : MethodId} {args : Array Value} {below : List Frame} {meth : Method} {c : Code} {Z : ra_R}  (F : ra_Fx X p rm_N_in s m args c prog_13_method_3_code 3 cn_N) (hr : meth.sig.returnType = (some .boolean)) (hlk : meth.locks = false) : ra_At X p l e rm_N_in s m args below meth c 3 (MQ below (ra_Qc X Z) args s 0 0 (ra_A X)) (b_N_in_5 Z) 5 :=
  r_iload_n F d_N_in_5 rfl <| r_iload_n F d_N_in_6 rfl <| r_icmp_gt F d_N_in_7 (by decide) (o_N_in_14 F hr hlk) (o_N_in_10 F hr hlk)
theorem o_N_in_0 {X : ra_X} {p : Program} {l : Launch} {e : Env} {s : State} {m : MethodId} {args : Array Value} {below : List Frame} {meth : Method} {c : Code} {Z : ra_R}  (F : ra_Fx X p rm_N_in s m args c prog_13_method_3_code 3 cn_N) (hr : meth.sig.returnType = (some .boolean)) (hlk : meth.locks = false) : ra_At X p l e rm_N_in s m args below meth c 3 (MQ below (ra_Qc X Z) args s 0 0 (ra_A X)) (b_N_in_0 Z) 0 :=
  r_iload_n F d_N_in_0 rfl <| r_iload_n F d_N_in_1 rfl <| r_icmp_lt F d_N_in_2 (by decide) (o_N_in_14 F hr hlk) (o_N_in_5 F hr hlk)
theorem g_N_in {l : Launch} {X : ra_X}  (sp : ra_Sp) (ve : ∀ as σ Z, ra_c1 as = true → as.length = 3 → sp as σ Z → b_N_in_0 Z (ra_pad 3 as) [] σ) : ra_MOK l X mi_N_in sp := by
  refine ra_enter (k := fun Z as σ => b_N_in_0 Z) cn_N rfl (by decide +kernel) ⟨by decide +kernel, by decide +kernel⟩ (by decide +kernel) ?_ ve
  intro p e s m args below meth c Z as σ hsp F hr hlk
  exact o_N_in_0 F hr hlk

theorem d_N_type_0 : decode prog_13_method_6_code 0 = .ok (.iload_n 1, 1) := by decide +kernel
theorem d_N_type_1 : decode prog_13_method_6_code 1 = .ok (.iconst 0, 1) := by decide +kernel
theorem d_N_type_2 : decode prog_13_method_6_code 2 = .ok (.iconst 1, 1) := by decide +kernel
theorem d_N_type_3 : decode prog_13_method_6_code 3 = .ok (.invokestatic 101, 3) := by decide +kernel
theorem d_N_type_6 : decode prog_13_method_6_code 6 = .ok (.ifCond .eq 14, 3) := by decide +kernel
theorem d_N_type_9 : decode prog_13_method_6_code 9 = .ok (.iload_n 2, 1) := by decide +kernel
theorem d_N_type_10 : decode prog_13_method_6_code 10 = .ok (.iconst 0, 1) := by decide +kernel
theorem d_N_type_11 : decode prog_13_method_6_code 11 = .ok (.sipush 255, 3) := by decide +kernel
theorem d_N_type_14 : decode prog_13_method_6_code 14 = .ok (.invokestatic 101, 3) := by decide +kernel
theorem d_N_type_17 : decode prog_13_method_6_code 17 = .ok (.ifCond .ne 6, 3) := by decide +kernel
theorem d_N_type_20 : decode prog_13_method_6_code 20 = .ok (.bipush (-2), 2) := by decide +kernel
theorem d_N_type_22 : decode prog_13_method_6_code 22 = .ok (.ireturn, 1) := by decide +kernel
theorem d_N_type_23 : decode prog_13_method_6_code 23 = .ok (.aload_n 0, 1) := by decide +kernel
theorem d_N_type_24 : decode prog_13_method_6_code 24 = .ok (.getfield 7, 3) := by decide +kernel
theorem d_N_type_27 : decode prog_13_method_6_code 27 = .ok (.iload_n 1, 1) := by decide +kernel
theorem d_N_type_28 : decode prog_13_method_6_code 28 = .ok (.iaload, 1) := by decide +kernel
theorem d_N_type_29 : decode prog_13_method_6_code 29 = .ok (.iload_n 1, 1) := by decide +kernel
theorem d_N_type_30 : decode prog_13_method_6_code 30 = .ok (.ifCond .ne 8, 3) := by decide +kernel
theorem d_N_type_33 : decode prog_13_method_6_code 33 = .ok (.bipush 40, 2) := by decide +kernel
theorem d_N_type_35 : decode prog_13_method_6_code 35 = .ok (.goto 5, 3) := by decide +kernel
theorem d_N_type_38 : decode prog_13_method_6_code 38 = .ok (.bipush 10, 2) := by decide +kernel
theorem d_N_type_40 : decode prog_13_method_6_code 40 = .ok (.if_icmp .ne 6, 3) := by decide +kernel
theorem d_N_type_43 : decode prog_13_method_6_code 43 = .ok (.bipush (-4), 2) := by decide +kernel
theorem d_N_type_45 : decode prog_13_method_6_code 45 = .ok (.ireturn, 1) := by decide +kernel
theorem d_N_type_46 : decode prog_13_method_6_code 46 = .ok (.aload_n 0, 1) := by decide +kernel
theorem d_N_type_47 : decode prog_13_method_6_code 47 = .ok (.getfield 13, 3) := by decide +kernel
theorem d_N_type_50 : decode prog_13_method_6_code 50 = .ok (.bipush 40, 2) := by decide +kernel
theorem d_N_type_52 : decode prog_13_method_6_code 52 = .ok (.iload_n 1, 1) := by decide +kernel
theorem d_N_type_53 : decode prog_13_method_6_code 53 = .ok (.imul, 1) := by decide +kernel
theorem d_N_type_54 : decode prog_13_method_6_code 54 = .ok (.aload_n 0, 1) := by decide +kernel
theorem d_N_type_55 : decode prog_13_method_6_code 55 = .ok (.getfield 7, 3) := by decide +kernel
theorem d_N_type_58 : decode prog_13_method_6_code 58 = .ok (.iload_n 1, 1) := by decide +kernel
theorem d_N_type_59 : decode prog_13_method_6_code 59 = .ok (.iaload, 1) := by decide +kernel
theorem d_N_type_60 : decode prog_13_method_6_code 60 = .ok (.iadd, 1) := by decide +kernel
theorem d_N_type_61 : decode prog_13_method_6_code 61 = .ok (.iload_n 2, 1) := by decide +kernel
theorem d_N_type_62 : decode prog_13_method_6_code 62 = .ok (.iastore, 1) := by decide +kernel
theorem d_N_type_63 : decode prog_13_method_6_code 63 = .ok (.aload_n 0, 1) := by decide +kernel
theorem d_N_type_64 : decode prog_13_method_6_code 64 = .ok (.getfield 7, 3) := by decide +kernel
theorem d_N_type_67 : decode prog_13_method_6_code 67 = .ok (.iload_n 1, 1) := by decide +kernel
theorem d_N_type_68 : decode prog_13_method_6_code 68 = .ok (.dup2, 1) := by decide +kernel
theorem d_N_type_69 : decode prog_13_method_6_code 69 = .ok (.iaload, 1) := by decide +kernel
theorem d_N_type_70 : decode prog_13_method_6_code 70 = .ok (.iconst 1, 1) := by decide +kernel
theorem d_N_type_71 : decode prog_13_method_6_code 71 = .ok (.iadd, 1) := by decide +kernel
theorem d_N_type_72 : decode prog_13_method_6_code 72 = .ok (.iastore, 1) := by decide +kernel
theorem d_N_type_73 : decode prog_13_method_6_code 73 = .ok (.aload_n 0, 1) := by decide +kernel
theorem d_N_type_74 : decode prog_13_method_6_code 74 = .ok (.getfield 7, 3) := by decide +kernel
theorem d_N_type_77 : decode prog_13_method_6_code 77 = .ok (.iload_n 1, 1) := by decide +kernel
theorem d_N_type_78 : decode prog_13_method_6_code 78 = .ok (.iaload, 1) := by decide +kernel
theorem d_N_type_79 : decode prog_13_method_6_code 79 = .ok (.ireturn, 1) := by decide +kernel
def b_N_type_46 (c0 : ra_Sp) (Z : ra_R) : ra_K := w_al 0 <| w_gr 11 1 <| w_c 40 <| w_il 1 <| w_i2 (fun x y => x * y) <| w_al 0 <| w_gr 11 0 <| w_il 1 <| w_ald <| w_i2 (fun x y => x + y) <| w_il 2 <| w_ast <| w_al 0 <| w_gr 11 0 <| w_il 1 <| w_dup2 <| w_ald <| w_c 1 <| w_i2 (fun x y => x + y) <| w_ast <| w_al 0 <| w_gr 11 0 <| w_il 1 <| w_ald <| w_ir Z
def b_N_type_43 (c0 : ra_Sp) (Z : ra_R) : ra_K := w_c (-4) <| w_ir Z
def b_N_type_40 (c0 : ra_Sp) (Z : ra_R) : ra_K := w_b2 (fun x y => x = y) (b_N_type_43 c0 Z) (b_N_type_46 c0 Z)
def b_N_type_38 (c0 : ra_Sp) (Z : ra_R) : ra_K := w_c 10 <| (b_N_type_40 c0 Z)
def b_N_type_33 (c0 : ra_Sp) (Z : ra_R) : ra_K := w_c 40 <| (b_N_type_40 c0 Z)
def b_N_type_23 (c0 : ra_Sp) (Z : ra_R) : ra_K := w_al 0 <| w_gr 11 0 <| w_il 1 <| w_ald <| w_il 1 <| w_b1 (fun x => x = 0) (b_N_type_33 c0 Z) (b_N_type_38 c0 Z)
def b_N_type_20 (c0 : ra_Sp) (Z : ra_R) : ra_K := w_c (-2) <| w_ir Z
def b_N_type_9 (c0 : ra_Sp) (Z : ra_R) : ra_K := w_il 2 <| w_c 0 <| w_c 255 <| w_cs c0 3 <| w_b1 (fun x => x = 0) (b_N_type_20 c0 Z) (b_N_type_23 c0 Z)
def b_N_type_0 (c0 : ra_Sp) (Z : ra_R) : ra_K := w_il 1 <| w_c 0 <| w_c 1 <| w_cs c0 3 <| w_b1 (fun x => x = 0) (b_N_type_20 c0 Z) (b_N_type_9 c0 Z)
theorem o_N_type_46 {X : ra_X} {p : Program} {l : Launch} {e : Env} {s : State} {m : MethodId} {args : Array Value} {below : List Frame} {meth : Method} {c : Code} {Z : ra_R} {c0 : ra_Sp}  (h0 : ra_MOK l X mi_N_in c0) (F : ra_Fx X p rm_N_type s m args c prog_13_method_6_code 3 cn_N) (hr : meth.sig.returnType = (some .int)) (hlk : meth.locks = false) : ra_At X p l e rm_N_type s m args below meth c 3 (MQ below (ra_Qc X Z) args s 0 0 (ra_A X)) (b_N_type_46 c0 Z) 46 :=
  r_aload_n F d_N_type_46 rfl <| r_getR F cg_N (j := 1) (by decide) rfl fl_N_13 d_N_type_47 <| r_bipush F d_N_type_50 (by decide) <| r_iload_n F d_N_type_52 rfl <| r_imul F d_N_type_53 <| r_aload_n F d_N_type_54 rfl <| r_getR F cg_N (j := 0) (by decide) rfl fl_N_7 d_N_type_55 <| r_iload_n F d_N_type_58 rfl <| r_iaload F d_N_type_59 <| r_iadd F d_N_type_60 <| r_iload_n F d_N_type_61 rfl <| r_iastore F d_N_type_62 <| r_aload_n F d_N_type_63 rfl <| r_getR F cg_N (j := 0) (by decide) rfl fl_N_7 d_N_type_64 <| r_iload_n F d_N_type_67 rfl <| r_dup2 F d_N_type_68 <| r_iaload F d_N_type_69 <| r_iconst F d_N_type_70 (by decide) <| r_iadd F d_N_type_71 <| r_iastore F d_N_type_72 <| r_aload_n F d_N_type_73 rfl <| r_getR F cg_N (j := 0) (by decide) rfl fl_N_7 d_N_type_74 <| r_iload_n F d_N_type_77 rfl <| r_iaload F d_N_type_78 <| r_ireturn F hr hlk d_N_type_79
theorem o_N_type_43 {X : ra_X} {p : Program} {l : Launch} {e : Env} {s : State} {m : MethodId} {args : Array Value} {below : List Frame} {meth : Method} {c : Code} {Z : ra_R} {c0 : ra_Sp}  (h0 : ra_MOK l X mi_N_in c0) (F : ra_Fx X p rm_N_type s m args c prog_13_method_6_code 3 cn_N) (hr : meth.sig.returnType = (some .int)) (hlk : meth.locks = false) : ra_At X p l e rm_N_type s m args below meth c 3 (MQ below (ra_Qc X Z) args s 0 0 (ra_A X)) (b_N_type_43 c0 Z) 43 :=
  r_bipush F d_N_type_43 (by decide) <| r_ireturn F hr hlk d_N_type_45
theorem o_N_type_40 {X : ra_X} {p : Program} {l : Launch} {e : Env} {s : State} {m : MethodId} {args : Array Value} {below : List Frame} {meth : Method} {c : Code} {Z : ra_R} {c0 : ra_Sp}  (h0 : ra_MOK l X mi_N_in c0) (F : ra_Fx X p rm_N_type s m args c prog_13_method_6_code 3 cn_N) (hr : meth.sig.returnType = (some .int)) (hlk : meth.locks = false) : ra_At X p l e rm_N_type s m args below meth c 3 (MQ below (ra_Qc X Z) args s 0 0 (ra_A X)) (b_N_type_40 c0 Z) 40 :=
  r_icmp_ne F d_N_type_40 (by decide) (o_N_type_46 h0 F hr hlk) (o_N_type_43 h0 F hr hlk)
theorem o_N_type_38 {X : ra_X} {p : Program} {l : Launch} {e : Env} {s : State} {m : MethodId} {args : Array Value} {below : List Frame} {meth : Method} {c : Code} {Z : ra_R} {c0 : ra_Sp}  (h0 : ra_MOK l X mi_N_in c0) (F : ra_Fx X p rm_N_type s m args c prog_13_method_6_code 3 cn_N) (hr : meth.sig.returnType = (some .int)) (hlk : meth.locks = false) : ra_At X p l e rm_N_type s m args below meth c 3 (MQ below (ra_Qc X Z) args s 0 0 (ra_A X)) (b_N_type_38 c0 Z) 38 :=
  r_bipush F d_N_type_38 (by decide) <| (o_N_type_40 h0 F hr hlk)
theorem o_N_type_33 {X : ra_X} {p : Program} {l : Launch} {e : Env} {s : State} {m : MethodId} {args : Array Value} {below : List Frame} {meth : Method} {c : Code} {Z : ra_R} {c0 : ra_Sp}  (h0 : ra_MOK l X mi_N_in c0) (F : ra_Fx X p rm_N_type s m args c prog_13_method_6_code 3 cn_N) (hr : meth.sig.returnType = (some .int)) (hlk : meth.locks = false) : ra_At X p l e rm_N_type s m args below meth c 3 (MQ below (ra_Qc X Z) args s 0 0 (ra_A X)) (b_N_type_33 c0 Z) 33 :=
  r_bipush F d_N_type_33 (by decide) <| r_goto F d_N_type_35 (by decide) (o_N_type_40 h0 F hr hlk)
theorem o_N_type_23 {X : ra_X} {p : Program} {l : Launch} {e : Env} {s : State} {m : MethodId} {args : Array Value} {below : List Frame} {meth : Method} {c : Code} {Z : ra_R} {c0 : ra_Sp}  (h0 : ra_MOK l X mi_N_in c0) (F : ra_Fx X p rm_N_type s m args c prog_13_method_6_code 3 cn_N) (hr : meth.sig.returnType = (some .int)) (hlk : meth.locks = false) : ra_At X p l e rm_N_type s m args below meth c 3 (MQ below (ra_Qc X Z) args s 0 0 (ra_A X)) (b_N_type_23 c0 Z) 23 :=
  r_aload_n F d_N_type_23 rfl <| r_getR F cg_N (j := 0) (by decide) rfl fl_N_7 d_N_type_24 <| r_iload_n F d_N_type_27 rfl <| r_iaload F d_N_type_28 <| r_iload_n F d_N_type_29 rfl <| r_if_ne F d_N_type_30 (by decide) (o_N_type_38 h0 F hr hlk) (o_N_type_33 h0 F hr hlk)
theorem o_N_type_20 {X : ra_X} {p : Program} {l : Launch} {e : Env} {s : State} {m : MethodId} {args : Array Value} {below : List Frame} {meth : Method} {c : Code} {Z : ra_R} {c0 : ra_Sp}  (h0 : ra_MOK l X mi_N_in c0) (F : ra_Fx X p rm_N_type s m args c prog_13_method_6_code 3 cn_N) (hr : meth.sig.returnType = (some .int)) (hlk : meth.locks = false) : ra_At X p l e rm_N_type s m args below meth c 3 (MQ below (ra_Qc X Z) args s 0 0 (ra_A X)) (b_N_type_20 c0 Z) 20 :=
  r_bipush F d_N_type_20 (by decide) <| r_ireturn F hr hlk d_N_type_22
theorem o_N_type_9 {X : ra_X} {p : Program} {l : Launch} {e : Env} {s : State} {m : MethodId} {args : Array Value} {below : List Frame} {meth : Method} {c : Code} {Z : ra_R} {c0 : ra_Sp}  (h0 : ra_MOK l X mi_N_in c0) (F : ra_Fx X p rm_N_type s m args c prog_13_method_6_code 3 cn_N) (hr : meth.sig.returnType = (some .int)) (hlk : meth.locks = false) : ra_At X p l e rm_N_type s m args below meth c 3 (MQ below (ra_Qc X Z) args s 0 0 (ra_A X)) (b_N_type_9 c0 Z) 9 :=
  r_iload_n F d_N_type_9 rfl <| r_iconst F d_N_type_10 (by decide) <| r_sipush F d_N_type_11 (by decide) <| r_callS F h0 (co_N_in (by decide +kernel) (by decide +kernel)) ⟨rfl, by decide +kernel⟩ ml_N_101 st_N_in d_N_type_14 <| r_if_ne F d_N_type_17 (by decide) (o_N_type_23 h0 F hr hlk) (o_N_type_20 h0 F hr hlk)
theorem o_N_type_0 {X : ra_X} {p : Program} {l : Launch} {e : Env} {s : State} {m : MethodId} {args : Array Value} {below : List Frame} {meth : Method} {c : Code} {Z : ra_R} {c0 : ra_Sp}  (h0 : ra_MOK l X mi_N_in c0) (F : ra_Fx X p rm_N_type s m args c prog_13_method_6_code 3 cn_N) (hr : meth.sig.returnType = (some .int)) (hlk : meth.locks = false) : ra_At X p l e rm_N_type s m args below meth c 3 (MQ below (ra_Qc X Z) args s 0 0 (ra_A X)) (b_N_type_0 c0 Z) 0 :=
  r_iload_n F d_N_type_0 rfl <| r_iconst F d_N_type_1 (by decide) <| r_iconst F d_N_type_2 (by decide) <| r_callS F h0 (co_N_in (by decide +kernel) (by decide +kernel)) ⟨rfl, by decide +kernel⟩ ml_N_101 st_N_in d_N_type_3 <| r_if_eq F d_N_type_6 (by decide) (o_N_type_20 h0 F hr hlk) (o_N_type_9 h0 F hr hlk)
theorem g_N_type {l : Launch} {X : ra_X} {c0 : ra_Sp}  (h0 : ra_MOK l X mi_N_in c0) (sp : ra_Sp) (ve : ∀ as σ Z, ra_c1 as = true → as.length = 3 → sp as σ Z → b_N_type_0 c0 Z (ra_pad 3 as) [] σ) : ra_MOK l X mi_N_type sp := by
  refine ra_enter (k := fun Z as σ => b_N_type_0 c0 Z) cn_N rfl (by decide +kernel) ⟨by decide +kernel, by decide +kernel⟩ (by decide +kernel) ?_ ve
  intro p e s m args below meth c Z as σ hsp F hr hlk
  exact o_N_type_0 h0 F hr hlk

theorem d_N_wipe_0 : decode prog_13_method_7_code 0 = .ok (.iload_n 1, 1) := by decide +kernel
theorem d_N_wipe_1 : decode prog_13_method_7_code 1 = .ok (.iconst 0, 1) := by decide +kernel
theorem d_N_wipe_2 : decode prog_13_method_7_code 2 = .ok (.iconst 1, 1) := by decide +kernel
theorem d_N_wipe_3 : decode prog_13_method_7_code 3 = .ok (.invokestatic 101, 3) := by decide +kernel
theorem d_N_wipe_6 : decode prog_13_method_7_code 6 = .ok (.ifCond .ne 6, 3) := by decide +kernel
theorem d_N_wipe_9 : decode prog_13_method_7_code 9 = .ok (.bipush (-2), 2) := by decide +kernel
theorem d_N_wipe_11 : decode prog_13_method_7_code 11 = .ok (.ireturn, 1) := by decide +kernel
theorem d_N_wipe_12 : decode prog_13_method_7_code 12 = .ok (.aload_n 0, 1) := by decide +kernel
theorem d_N_wipe_13 : decode prog_13_method_7_code 13 = .ok (.getfield 7, 3) := by decide +kernel
theorem d_N_wipe_16 : decode prog_13_method_7_code 16 = .ok (.iload_n 1, 1) := by decide +kernel
theorem d_N_wipe_17 : decode prog_13_method_7_code 17 = .ok (.iaload, 1) := by decide +kernel
theorem d_N_wipe_18 : decode prog_13_method_7_code 18 = .ok (.istore_n 2, 1) := by decide +kernel
theorem d_N_wipe_19 : decode prog_13_method_7_code 19 = .ok (.aload_n 0, 1) := by decide +kernel
theorem d_N_wipe_20 : decode prog_13_method_7_code 20 = .ok (.getfield 7, 3) := by decide +kernel
theorem d_N_wipe_23 : decode prog_13_method_7_code 23 = .ok (.iload_n 1, 1) := by decide +kernel
theorem d_N_wipe_24 : decode prog_13_method_7_code 24 = .ok (.iconst 0, 1) := by decide +kernel
theorem d_N_wipe_25 : decode prog_13_method_7_code 25 = .ok (.iastore, 1) := by decide +kernel
theorem d_N_wipe_26 : decode prog_13_method_7_code 26 = .ok (.iload_n 2, 1) := by decide +kernel
theorem d_N_wipe_27 : decode prog_13_method_7_code 27 = .ok (.ireturn, 1) := by decide +kernel
def b_N_wipe_12 (c0 : ra_Sp) (Z : ra_R) : ra_K := w_al 0 <| w_gr 11 0 <| w_il 1 <| w_ald <| w_is 2 <| w_al 0 <| w_gr 11 0 <| w_il 1 <| w_c 0 <| w_ast <| w_il 2 <| w_ir Z
def b_N_wipe_9 (c0 : ra_Sp) (Z : ra_R) : ra_K := w_c (-2) <| w_ir Z
def b_N_wipe_0 (c0 : ra_Sp) (Z : ra_R) : ra_K := w_il 1 <| w_c 0 <| w_c 1 <| w_cs c0 3 <| w_b1 (fun x => x = 0) (b_N_wipe_9 c0 Z) (b_N_wipe_12 c0 Z)
theorem o_N_wipe_12 {X : ra_X} {p : Program} {l : Launch} {e : Env} {s : State} {m : MethodId} {args : Array Value} {below : List Frame} {meth : Method} {c : Code} {Z : ra_R} {c0 : ra_Sp}  (h0 : ra_MOK l X mi_N_in c0) (F : ra_Fx X p rm_N_wipe s m args c prog_13_method_7_code 3 cn_N) (hr : meth.sig.returnType = (some .int)) (hlk : meth.locks = false) : ra_At X p l e rm_N_wipe s m args below meth c 3 (MQ below (ra_Qc X Z) args s 0 0 (ra_A X)) (b_N_wipe_12 c0 Z) 12 :=
  r_aload_n F d_N_wipe_12 rfl <| r_getR F cg_N (j := 0) (by decide) rfl fl_N_7 d_N_wipe_13 <| r_iload_n F d_N_wipe_16 rfl <| r_iaload F d_N_wipe_17 <| r_istore_n F d_N_wipe_18 rfl (by decide) <| r_aload_n F d_N_wipe_19 rfl <| r_getR F cg_N (j := 0) (by decide) rfl fl_N_7 d_N_wipe_20 <| r_iload_n F d_N_wipe_23 rfl <| r_iconst F d_N_wipe_24 (by decide) <| r_iastore F d_N_wipe_25 <| r_iload_n F d_N_wipe_26 rfl <| r_ireturn F hr hlk d_N_wipe_27
theorem o_N_wipe_9 {X : ra_X} {p : Program} {l : Launch} {e : Env} {s : State} {m : MethodId} {args : Array Value} {below : List Frame} {meth : Method} {c : Code} {Z : ra_R} {c0 : ra_Sp}  (h0 : ra_MOK l X mi_N_in c0) (F : ra_Fx X p rm_N_wipe s m args c prog_13_method_7_code 3 cn_N) (hr : meth.sig.returnType = (some .int)) (hlk : meth.locks = false) : ra_At X p l e rm_N_wipe s m args below meth c 3 (MQ below (ra_Qc X Z) args s 0 0 (ra_A X)) (b_N_wipe_9 c0 Z) 9 :=
  r_bipush F d_N_wipe_9 (by decide) <| r_ireturn F hr hlk d_N_wipe_11
theorem o_N_wipe_0 {X : ra_X} {p : Program} {l : Launch} {e : Env} {s : State} {m : MethodId} {args : Array Value} {below : List Frame} {meth : Method} {c : Code} {Z : ra_R} {c0 : ra_Sp}  (h0 : ra_MOK l X mi_N_in c0) (F : ra_Fx X p rm_N_wipe s m args c prog_13_method_7_code 3 cn_N) (hr : meth.sig.returnType = (some .int)) (hlk : meth.locks = false) : ra_At X p l e rm_N_wipe s m args below meth c 3 (MQ below (ra_Qc X Z) args s 0 0 (ra_A X)) (b_N_wipe_0 c0 Z) 0 :=
  r_iload_n F d_N_wipe_0 rfl <| r_iconst F d_N_wipe_1 (by decide) <| r_iconst F d_N_wipe_2 (by decide) <| r_callS F h0 (co_N_in (by decide +kernel) (by decide +kernel)) ⟨rfl, by decide +kernel⟩ ml_N_101 st_N_in d_N_wipe_3 <| r_if_ne F d_N_wipe_6 (by decide) (o_N_wipe_12 h0 F hr hlk) (o_N_wipe_9 h0 F hr hlk)
theorem g_N_wipe {l : Launch} {X : ra_X} {c0 : ra_Sp}  (h0 : ra_MOK l X mi_N_in c0) (sp : ra_Sp) (ve : ∀ as σ Z, ra_c1 as = true → as.length = 2 → sp as σ Z → b_N_wipe_0 c0 Z (ra_pad 3 as) [] σ) : ra_MOK l X mi_N_wipe sp := by
  refine ra_enter (k := fun Z as σ => b_N_wipe_0 c0 Z) cn_N rfl (by decide +kernel) ⟨by decide +kernel, by decide +kernel⟩ (by decide +kernel) ?_ ve
  intro p e s m args below meth c Z as σ hsp F hr hlk
  exact o_N_wipe_0 h0 F hr hlk

theorem d_N_byteAt_0 : decode prog_13_method_8_code 0 = .ok (.iload_n 2, 1) := by decide +kernel
theorem d_N_byteAt_1 : decode prog_13_method_8_code 1 = .ok (.aload_n 0, 1) := by decide +kernel
theorem d_N_byteAt_2 : decode prog_13_method_8_code 2 = .ok (.getfield 7, 3) := by decide +kernel
theorem d_N_byteAt_5 : decode prog_13_method_8_code 5 = .ok (.iload_n 1, 1) := by decide +kernel
theorem d_N_byteAt_6 : decode prog_13_method_8_code 6 = .ok (.iaload, 1) := by decide +kernel
theorem d_N_byteAt_7 : decode prog_13_method_8_code 7 = .ok (.if_icmp .ge 17, 3) := by decide +kernel
theorem d_N_byteAt_10 : decode prog_13_method_8_code 10 = .ok (.aload_n 0, 1) := by decide +kernel
theorem d_N_byteAt_11 : decode prog_13_method_8_code 11 = .ok (.getfield 13, 3) := by decide +kernel
theorem d_N_byteAt_14 : decode prog_13_method_8_code 14 = .ok (.bipush 40, 2) := by decide +kernel
theorem d_N_byteAt_16 : decode prog_13_method_8_code 16 = .ok (.iload_n 1, 1) := by decide +kernel
theorem d_N_byteAt_17 : decode prog_13_method_8_code 17 = .ok (.imul, 1) := by decide +kernel
theorem d_N_byteAt_18 : decode prog_13_method_8_code 18 = .ok (.iload_n 2, 1) := by decide +kernel
theorem d_N_byteAt_19 : decode prog_13_method_8_code 19 = .ok (.iadd, 1) := by decide +kernel
theorem d_N_byteAt_20 : decode prog_13_method_8_code 20 = .ok (.iaload, 1) := by decide +kernel
theorem d_N_byteAt_21 : decode prog_13_method_8_code 21 = .ok (.goto 4, 3) := by decide +kernel
theorem d_N_byteAt_24 : decode prog_13_method_8_code 24 = .ok (.iconst (-1), 1) := by decide +kernel
theorem d_N_byteAt_25 : decode prog_13_method_8_code 25 = .ok (.ireturn, 1) := by decide +kernel
def b_N_byteAt_25 (Z : ra_R) : ra_K := w_ir Z
def b_N_byteAt_24 (Z : ra_R) : ra_K := w_c (-1) <| (b_N_byteAt_25 Z)
def b_N_byteAt_10 (Z : ra_R) : ra_K := w_al 0 <| w_gr 11 1 <| w_c 40 <| w_il 1 <| w_i2 (fun x y => x * y) <| w_il 2 <| w_i2 (fun x y => x + y) <| w_ald <| (b_N_byteAt_25 Z)
def b_N_byteAt_0 (Z : ra_R) : ra_K := w_il 2 <| w_al 0 <| w_gr 11 0 <| w_il 1 <| w_ald <| w_b2 (fun x y => y ≤ x) (b_N_byteAt_24 Z) (b_N_byteAt_10 Z)
theorem o_N_byteAt_25 {X : ra_X} {p : Program} {l : Launch} {e : Env} {s : State} {m : MethodId} {args : Array Value} {below : List Frame} {meth : Method} {c : Code} {Z : ra_R}  (F : ra_Fx X p rm_N_byteAt s m args c prog_13_method_8_code 3 cn_N) (hr : meth.sig.returnType = (some .int)) (hlk : meth.locks = false) : ra_At X p l e rm_N_byteAt s m args below meth c 3 (MQ below (ra_Qc X Z) args s 0 0 (ra_A X)) (b_N_byteAt_25 Z) 25 :=
  r_ireturn F hr hlk d_N_byteAt_25
theorem o_N_byteAt_24 {X : ra_X} {p : Program} {l : Launch} {e : Env} {s : State} {m : MethodId} {args : Array Value} {below : List Frame} {meth : Method} {c : Code} {Z : ra_R}  (F : ra_Fx X p rm_N_byteAt s m args c prog_13_method_8_code 3 cn_N) (hr : meth.sig.returnType = (some .int)) (hlk : meth.locks = false) : ra_At X p l e rm_N_byteAt s m args below meth c 3 (MQ below (ra_Qc X Z) args s 0 0 (ra_A X)) (b_N_byteAt_24 Z) 24 :=
  r_iconst F d_N_byteAt_24 (by decide) <| (o_N_byteAt_25 F hr hlk)
theorem o_N_byteAt_10 {X : ra_X} {p : Program} {l : Launch} {e : Env} {s : State} {m : MethodId} {args : Array Value} {below : List Frame} {meth : Method} {c : Code} {Z : ra_R}  (F : ra_Fx X p rm_N_byteAt s m args c prog_13_method_8_code 3 cn_N) (hr : meth.sig.returnType = (some .int)) (hlk : meth.locks = false) : ra_At X p l e rm_N_byteAt s m args below meth c 3 (MQ below (ra_Qc X Z) args s 0 0 (ra_A X)) (b_N_byteAt_10 Z) 10 :=
  r_aload_n F d_N_byteAt_10 rfl <| r_getR F cg_N (j := 1) (by decide) rfl fl_N_13 d_N_byteAt_11 <| r_bipush F d_N_byteAt_14 (by decide) <| r_iload_n F d_N_byteAt_16 rfl <| r_imul F d_N_byteAt_17 <| r_iload_n F d_N_byteAt_18 rfl <| r_iadd F d_N_byteAt_19 <| r_iaload F d_N_byteAt_20 <| r_goto F d_N_byteAt_21 (by decide) (o_N_byteAt_25 F hr hlk)
theorem o_N_byteAt_0 {X : ra_X} {p : Program} {l : Launch} {e : Env} {s : State} {m : MethodId} {args : Array Value} {below : List Frame} {meth : Method} {c : Code} {Z : ra_R}  (F : ra_Fx X p rm_N_byteAt s m args c prog_13_method_8_code 3 cn_N) (hr : meth.sig.returnType = (some .int)) (hlk : meth.locks = false) : ra_At X p l e rm_N_byteAt s m args below meth c 3 (MQ below (ra_Qc X Z) args s 0 0 (ra_A X)) (b_N_byteAt_0 Z) 0 :=
  r_iload_n F d_N_byteAt_0 rfl <| r_aload_n F d_N_byteAt_1 rfl <| r_getR F cg_N (j := 0) (by decide) rfl fl_N_7 d_N_byteAt_2 <| r_iload_n F d_N_byteAt_5 rfl <| r_iaload F d_N_byteAt_6 <| r_icmp_ge F d_N_byteAt_7 (by decide) (o_N_byteAt_24 F hr hlk) (o_N_byteAt_10 F hr hlk)
theorem g_N_byteAt {l : Launch} {X : ra_X}  (sp : ra_Sp) (ve : ∀ as σ Z, ra_c1 as = true → as.length = 3 → sp as σ Z → b_N_byteAt_0 Z (ra_pad 3 as) [] σ) : ra_MOK l X mi_N_byteAt sp := by
  refine ra_enter (k := fun Z as σ => b_N_byteAt_0 Z) cn_N rfl (by decide +kernel) ⟨by decide +kernel, by decide +kernel⟩ (by decide +kernel) ?_ ve
  intro p e s m args below meth c Z as σ hsp F hr hlk
  exact o_N_byteAt_0 F hr hlk

theorem d_N_figureAt_0 : decode prog_13_method_9_code 0 = .ok (.aload_n 0, 1) := by decide +kernel
theorem d_N_figureAt_1 : decode prog_13_method_9_code 1 = .ok (.iload_n 1, 1) := by decide +kernel
theorem d_N_figureAt_2 : decode prog_13_method_9_code 2 = .ok (.iload_n 2, 1) := by decide +kernel
theorem d_N_figureAt_3 : decode prog_13_method_9_code 3 = .ok (.invokevirtual 105, 3) := by decide +kernel
theorem d_N_figureAt_6 : decode prog_13_method_9_code 6 = .ok (.istore_n 3, 1) := by decide +kernel
theorem d_N_figureAt_7 : decode prog_13_method_9_code 7 = .ok (.iload_n 3, 1) := by decide +kernel
theorem d_N_figureAt_8 : decode prog_13_method_9_code 8 = .ok (.bipush 48, 2) := by decide +kernel
theorem d_N_figureAt_10 : decode prog_13_method_9_code 10 = .ok (.bipush 57, 2) := by decide +kernel
theorem d_N_figureAt_12 : decode prog_13_method_9_code 12 = .ok (.invokestatic 101, 3) := by decide +kernel
theorem d_N_figureAt_15 : decode prog_13_method_9_code 15 = .ok (.ifCond .eq 10, 3) := by decide +kernel
theorem d_N_figureAt_18 : decode prog_13_method_9_code 18 = .ok (.iload_n 3, 1) := by decide +kernel
theorem d_N_figureAt_19 : decode prog_13_method_9_code 19 = .ok (.bipush 48, 2) := by decide +kernel
theorem d_N_figureAt_21 : decode prog_13_method_9_code 21 = .ok (.isub, 1) := by decide +kernel
theorem d_N_figureAt_22 : decode prog_13_method_9_code 22 = .ok (.goto 4, 3) := by decide +kernel
theorem d_N_figureAt_25 : decode prog_13_method_9_code 25 = .ok (.iconst (-1), 1) := by decide +kernel
theorem d_N_figureAt_26 : decode prog_13_method_9_code 26 = .ok (.ireturn, 1) := by decide +kernel
def b_N_figureAt_26 (c0 c1 : ra_Sp) (Z : ra_R) : ra_K := w_ir Z
def b_N_figureAt_25 (c0 c1 : ra_Sp) (Z : ra_R) : ra_K := w_c (-1) <| (b_N_figureAt_26 c0 c1 Z)
def b_N_figureAt_18 (c0 c1 : ra_Sp) (Z : ra_R) : ra_K := w_il 3 <| w_c 48 <| w_i2 (fun x y => x - y) <| (b_N_figureAt_26 c0 c1 Z)
def b_N_figureAt_0 (c0 c1 : ra_Sp) (Z : ra_R) : ra_K := w_al 0 <| w_il 1 <| w_il 2 <| w_cv c0 3 11 <| w_is 3 <| w_il 3 <| w_c 48 <| w_c 57 <| w_cs c1 3 <| w_b1 (fun x => x = 0) (b_N_figureAt_25 c0 c1 Z) (b_N_figureAt_18 c0 c1 Z)
theorem o_N_figureAt_26 {X : ra_X} {p : Program} {l : Launch} {e : Env} {s : State} {m : MethodId} {args : Array Value} {below : List Frame} {meth : Method} {c : Code} {Z : ra_R} {c0 c1 : ra_Sp}  (h0 : ra_MOK l X mi_N_byteAt c0) (h1 : ra_MOK l X mi_N_in c1) (F : ra_Fx X p rm_N_figureAt s m args c prog_13_method_9_code 4 cn_N) (hr : meth.sig.returnType = (some .int)) (hlk : meth.locks = false) : ra_At X p l e rm_N_figureAt s m args below meth c 4 (MQ below (ra_Qc X Z) args s 0 0 (ra_A X)) (b_N_figureAt_26 c0 c1 Z) 26 :=
  r_ireturn F hr hlk d_N_figureAt_26
theorem o_N_figureAt_25 {X : ra_X} {p : Program} {l : Launch} {e : Env} {s : State} {m : MethodId} {args : Array Value} {below : List Frame} {meth : Method} {c : Code} {Z : ra_R} {c0 c1 : ra_Sp}  (h0 : ra_MOK l X mi_N_byteAt c0) (h1 : ra_MOK l X mi_N_in c1) (F : ra_Fx X p rm_N_figureAt s m args c prog_13_method_9_code 4 cn_N) (hr : meth.sig.returnType = (some .int)) (hlk : meth.locks = false) : ra_At X p l e rm_N_figureAt s m args below meth c 4 (MQ below (ra_Qc X Z) args s 0 0 (ra_A X)) (b_N_figureAt_25 c0 c1 Z) 25 :=
  r_iconst F d_N_figureAt_25 (by decide) <| (o_N_figureAt_26 h0 h1 F hr hlk)
theorem o_N_figureAt_18 {X : ra_X} {p : Program} {l : Launch} {e : Env} {s : State} {m : MethodId} {args : Array Value} {below : List Frame} {meth : Method} {c : Code} {Z : ra_R} {c0 c1 : ra_Sp}  (h0 : ra_MOK l X mi_N_byteAt c0) (h1 : ra_MOK l X mi_N_in c1) (F : ra_Fx X p rm_N_figureAt s m args c prog_13_method_9_code 4 cn_N) (hr : meth.sig.returnType = (some .int)) (hlk : meth.locks = false) : ra_At X p l e rm_N_figureAt s m args below meth c 4 (MQ below (ra_Qc X Z) args s 0 0 (ra_A X)) (b_N_figureAt_18 c0 c1 Z) 18 :=
  r_iload_n F d_N_figureAt_18 rfl <| r_bipush F d_N_figureAt_19 (by decide) <| r_isub F d_N_figureAt_21 <| r_goto F d_N_figureAt_22 (by decide) (o_N_figureAt_26 h0 h1 F hr hlk)
theorem o_N_figureAt_0 {X : ra_X} {p : Program} {l : Launch} {e : Env} {s : State} {m : MethodId} {args : Array Value} {below : List Frame} {meth : Method} {c : Code} {Z : ra_R} {c0 c1 : ra_Sp}  (h0 : ra_MOK l X mi_N_byteAt c0) (h1 : ra_MOK l X mi_N_in c1) (F : ra_Fx X p rm_N_figureAt s m args c prog_13_method_9_code 4 cn_N) (hr : meth.sig.returnType = (some .int)) (hlk : meth.locks = false) : ra_At X p l e rm_N_figureAt s m args below meth c 4 (MQ below (ra_Qc X Z) args s 0 0 (ra_A X)) (b_N_figureAt_0 c0 c1 Z) 0 :=
  r_aload_n F d_N_figureAt_0 rfl <| r_iload_n F d_N_figureAt_1 rfl <| r_iload_n F d_N_figureAt_2 rfl <| r_callV F h0 (co_N_byteAt (by decide +kernel) (by decide +kernel)) ⟨rfl, by decide +kernel⟩ ⟨rfl, by decide⟩ ml_N_105 im_N_byteAt se_N_byteAt d_N_figureAt_3 <| r_istore_n F d_N_figureAt_6 rfl (by decide) <| r_iload_n F d_N_figureAt_7 rfl <| r_bipush F d_N_figureAt_8 (by decide) <| r_bipush F d_N_figureAt_10 (by decide) <| r_callS F h1 (co_N_in (by decide +kernel) (by decide +kernel)) ⟨rfl, by decide +kernel⟩ ml_N_101 st_N_in d_N_figureAt_12 <| r_if_eq F d_N_figureAt_15 (by decide) (o_N_figureAt_25 h0 h1 F hr hlk) (o_N_figureAt_18 h0 h1 F hr hlk)
theorem g_N_figureAt {l : Launch} {X : ra_X} {c0 c1 : ra_Sp}  (h0 : ra_MOK l X mi_N_byteAt c0) (h1 : ra_MOK l X mi_N_in c1) (sp : ra_Sp) (ve : ∀ as σ Z, ra_c1 as = true → as.length = 3 → sp as σ Z → b_N_figureAt_0 c0 c1 Z (ra_pad 4 as) [] σ) : ra_MOK l X mi_N_figureAt sp := by
  refine ra_enter (k := fun Z as σ => b_N_figureAt_0 c0 c1 Z) cn_N rfl (by decide +kernel) ⟨by decide +kernel, by decide +kernel⟩ (by decide +kernel) ?_ ve
  intro p e s m args below meth c Z as σ hsp F hr hlk
  exact o_N_figureAt_0 h0 h1 F hr hlk

theorem d_N_readsHouses_0 : decode prog_13_method_10_code 0 = .ok (.aload_n 0, 1) := by decide +kernel
theorem d_N_readsHouses_1 : decode prog_13_method_10_code 1 = .ok (.iconst 0, 1) := by decide +kernel
theorem d_N_readsHouses_2 : decode prog_13_method_10_code 2 = .ok (.putfield 109, 3) := by decide +kernel
theorem d_N_readsHouses_5 : decode prog_13_method_10_code 5 = .ok (.iconst 0, 1) := by decide +kernel
theorem d_N_readsHouses_6 : decode prog_13_method_10_code 6 = .ok (.istore_n 1, 1) := by decide +kernel
theorem d_N_readsHouses_7 : decode prog_13_method_10_code 7 = .ok (.iconst 0, 1) := by decide +kernel
theorem d_N_readsHouses_8 : decode prog_13_method_10_code 8 = .ok (.istore_n 2, 1) := by decide +kernel
theorem d_N_readsHouses_9 : decode prog_13_method_10_code 9 = .ok (.iload_n 2, 1) := by decide +kernel
theorem d_N_readsHouses_10 : decode prog_13_method_10_code 10 = .ok (.aload_n 0, 1) := by decide +kernel
theorem d_N_readsHouses_11 : decode prog_13_method_10_code 11 = .ok (.getfield 7, 3) := by decide +kernel
theorem d_N_readsHouses_14 : decode prog_13_method_10_code 14 = .ok (.iconst 0, 1) := by decide +kernel
theorem d_N_readsHouses_15 : decode prog_13_method_10_code 15 = .ok (.iaload, 1) := by decide +kernel
theorem d_N_readsHouses_16 : decode prog_13_method_10_code 16 = .ok (.if_icmp .lt 7, 3) := by decide +kernel
theorem d_N_readsHouses_19 : decode prog_13_method_10_code 19 = .ok (.iload_n 2, 1) := by decide +kernel
theorem d_N_readsHouses_20 : decode prog_13_method_10_code 20 = .ok (.ifCond .le 179, 3) := by decide +kernel
theorem d_N_readsHouses_23 : decode prog_13_method_10_code 23 = .ok (.iload_n 1, 1) := by decide +kernel
theorem d_N_readsHouses_24 : decode prog_13_method_10_code 24 = .ok (.bipush 8, 2) := by decide +kernel
theorem d_N_readsHouses_26 : decode prog_13_method_10_code 26 = .ok (.if_icmp .eq 13, 3) := by decide +kernel
theorem d_N_readsHouses_29 : decode prog_13_method_10_code 29 = .ok (.aload_n 0, 1) := by decide +kernel
theorem d_N_readsHouses_30 : decode prog_13_method_10_code 30 = .ok (.iconst 0, 1) := by decide +kernel
theorem d_N_readsHouses_31 : decode prog_13_method_10_code 31 = .ok (.iload_n 2, 1) := by decide +kernel
theorem d_N_readsHouses_32 : decode prog_13_method_10_code 32 = .ok (.invokevirtual 113, 3) := by decide +kernel
theorem d_N_readsHouses_35 : decode prog_13_method_10_code 35 = .ok (.iconst (-1), 1) := by decide +kernel
theorem d_N_readsHouses_36 : decode prog_13_method_10_code 36 = .ok (.if_icmp .ne 5, 3) := by decide +kernel
theorem d_N_readsHouses_39 : decode prog_13_method_10_code 39 = .ok (.iload_n 2, 1) := by decide +kernel
theorem d_N_readsHouses_40 : decode prog_13_method_10_code 40 = .ok (.ireturn, 1) := by decide +kernel
theorem d_N_readsHouses_41 : decode prog_13_method_10_code 41 = .ok (.aload_n 0, 1) := by decide +kernel
theorem d_N_readsHouses_42 : decode prog_13_method_10_code 42 = .ok (.iconst 0, 1) := by decide +kernel
theorem d_N_readsHouses_43 : decode prog_13_method_10_code 43 = .ok (.iload_n 2, 1) := by decide +kernel
theorem d_N_readsHouses_44 : decode prog_13_method_10_code 44 = .ok (.iconst 1, 1) := by decide +kernel
theorem d_N_readsHouses_45 : decode prog_13_method_10_code 45 = .ok (.iadd, 1) := by decide +kernel
theorem d_N_readsHouses_46 : decode prog_13_method_10_code 46 = .ok (.invokevirtual 113, 3) := by decide +kernel
theorem d_N_readsHouses_49 : decode prog_13_method_10_code 49 = .ok (.iconst (-1), 1) := by decide +kernel
theorem d_N_readsHouses_50 : decode prog_13_method_10_code 50 = .ok (.if_icmp .ne 7, 3) := by decide +kernel
theorem d_N_readsHouses_53 : decode prog_13_method_10_code 53 = .ok (.iload_n 2, 1) := by decide +kernel
theorem d_N_readsHouses_54 : decode prog_13_method_10_code 54 = .ok (.iconst 1, 1) := by decide +kernel
theorem d_N_readsHouses_55 : decode prog_13_method_10_code 55 = .ok (.iadd, 1) := by decide +kernel
theorem d_N_readsHouses_56 : decode prog_13_method_10_code 56 = .ok (.ireturn, 1) := by decide +kernel
theorem d_N_readsHouses_57 : decode prog_13_method_10_code 57 = .ok (.aload_n 0, 1) := by decide +kernel
theorem d_N_readsHouses_58 : decode prog_13_method_10_code 58 = .ok (.iconst 0, 1) := by decide +kernel
theorem d_N_readsHouses_59 : decode prog_13_method_10_code 59 = .ok (.iload_n 2, 1) := by decide +kernel
theorem d_N_readsHouses_60 : decode prog_13_method_10_code 60 = .ok (.iconst 2, 1) := by decide +kernel
theorem d_N_readsHouses_61 : decode prog_13_method_10_code 61 = .ok (.iadd, 1) := by decide +kernel
theorem d_N_readsHouses_62 : decode prog_13_method_10_code 62 = .ok (.invokevirtual 105, 3) := by decide +kernel
theorem d_N_readsHouses_65 : decode prog_13_method_10_code 65 = .ok (.istore_n 3, 1) := by decide +kernel
theorem d_N_readsHouses_66 : decode prog_13_method_10_code 66 = .ok (.iload_n 3, 1) := by decide +kernel
theorem d_N_readsHouses_67 : decode prog_13_method_10_code 67 = .ok (.bipush 107, 2) := by decide +kernel
theorem d_N_readsHouses_69 : decode prog_13_method_10_code 69 = .ok (.if_icmp .eq 25, 3) := by decide +kernel
theorem d_N_readsHouses_72 : decode prog_13_method_10_code 72 = .ok (.iload_n 3, 1) := by decide +kernel
theorem d_N_readsHouses_73 : decode prog_13_method_10_code 73 = .ok (.bipush 103, 2) := by decide +kernel
theorem d_N_readsHouses_75 : decode prog_13_method_10_code 75 = .ok (.if_icmp .eq 19, 3) := by decide +kernel
theorem d_N_readsHouses_78 : decode prog_13_method_10_code 78 = .ok (.iload_n 3, 1) := by decide +kernel
theorem d_N_readsHouses_79 : decode prog_13_method_10_code 79 = .ok (.bipush 102, 2) := by decide +kernel
theorem d_N_readsHouses_81 : decode prog_13_method_10_code 81 = .ok (.if_icmp .eq 13, 3) := by decide +kernel
theorem d_N_readsHouses_84 : decode prog_13_method_10_code 84 = .ok (.iload_n 3, 1) := by decide +kernel
theorem d_N_readsHouses_85 : decode prog_13_method_10_code 85 = .ok (.bipush 108, 2) := by decide +kernel
theorem d_N_readsHouses_87 : decode prog_13_method_10_code 87 = .ok (.if_icmp .eq 7, 3) := by decide +kernel
theorem d_N_readsHouses_90 : decode prog_13_method_10_code 90 = .ok (.iload_n 2, 1) := by decide +kernel
theorem d_N_readsHouses_91 : decode prog_13_method_10_code 91 = .ok (.iconst 2, 1) := by decide +kernel
theorem d_N_readsHouses_92 : decode prog_13_method_10_code 92 = .ok (.iadd, 1) := by decide +kernel
theorem d_N_readsHouses_93 : decode prog_13_method_10_code 93 = .ok (.ireturn, 1) := by decide +kernel
theorem d_N_readsHouses_94 : decode prog_13_method_10_code 94 = .ok (.aload_n 0, 1) := by decide +kernel
theorem d_N_readsHouses_95 : decode prog_13_method_10_code 95 = .ok (.getfield 16, 3) := by decide +kernel
theorem d_N_readsHouses_98 : decode prog_13_method_10_code 98 = .ok (.iload_n 1, 1) := by decide +kernel
theorem d_N_readsHouses_99 : decode prog_13_method_10_code 99 = .ok (.aload_n 0, 1) := by decide +kernel
theorem d_N_readsHouses_100 : decode prog_13_method_10_code 100 = .ok (.iconst 0, 1) := by decide +kernel
theorem d_N_readsHouses_101 : decode prog_13_method_10_code 101 = .ok (.iload_n 2, 1) := by decide +kernel
theorem d_N_readsHouses_102 : decode prog_13_method_10_code 102 = .ok (.invokevirtual 113, 3) := by decide +kernel
theorem d_N_readsHouses_105 : decode prog_13_method_10_code 105 = .ok (.iastore, 1) := by decide +kernel
theorem d_N_readsHouses_106 : decode prog_13_method_10_code 106 = .ok (.aload_n 0, 1) := by decide +kernel
theorem d_N_readsHouses_107 : decode prog_13_method_10_code 107 = .ok (.getfield 19, 3) := by decide +kernel
theorem d_N_readsHouses_110 : decode prog_13_method_10_code 110 = .ok (.iload_n 1, 1) := by decide +kernel
theorem d_N_readsHouses_111 : decode prog_13_method_10_code 111 = .ok (.aload_n 0, 1) := by decide +kernel
theorem d_N_readsHouses_112 : decode prog_13_method_10_code 112 = .ok (.iconst 0, 1) := by decide +kernel
theorem d_N_readsHouses_113 : decode prog_13_method_10_code 113 = .ok (.iload_n 2, 1) := by decide +kernel
theorem d_N_readsHouses_114 : decode prog_13_method_10_code 114 = .ok (.iconst 1, 1) := by decide +kernel
theorem d_N_readsHouses_115 : decode prog_13_method_10_code 115 = .ok (.iadd, 1) := by decide +kernel
theorem d_N_readsHouses_116 : decode prog_13_method_10_code 116 = .ok (.invokevirtual 113, 3) := by decide +kernel
theorem d_N_readsHouses_119 : decode prog_13_method_10_code 119 = .ok (.iastore, 1) := by decide +kernel
theorem d_N_readsHouses_120 : decode prog_13_method_10_code 120 = .ok (.aload_n 0, 1) := by decide +kernel
theorem d_N_readsHouses_121 : decode prog_13_method_10_code 121 = .ok (.getfield 22, 3) := by decide +kernel
theorem d_N_readsHouses_124 : decode prog_13_method_10_code 124 = .ok (.iload_n 1, 1) := by decide +kernel
theorem d_N_readsHouses_125 : decode prog_13_method_10_code 125 = .ok (.iload_n 3, 1) := by decide +kernel
theorem d_N_readsHouses_126 : decode prog_13_method_10_code 126 = .ok (.bipush 107, 2) := by decide +kernel
theorem d_N_readsHouses_128 : decode prog_13_method_10_code 128 = .ok (.if_icmp .ne 7, 3) := by decide +kernel
theorem d_N_readsHouses_131 : decode prog_13_method_10_code 131 = .ok (.iconst 0, 1) := by decide +kernel
theorem d_N_readsHouses_132 : decode prog_13_method_10_code 132 = .ok (.goto 24, 3) := by decide +kernel
theorem d_N_readsHouses_135 : decode prog_13_method_10_code 135 = .ok (.iload_n 3, 1) := by decide +kernel
theorem d_N_readsHouses_136 : decode prog_13_method_10_code 136 = .ok (.bipush 103, 2) := by decide +kernel
theorem d_N_readsHouses_138 : decode prog_13_method_10_code 138 = .ok (.if_icmp .ne 7, 3) := by decide +kernel
theorem d_N_readsHouses_141 : decode prog_13_method_10_code 141 = .ok (.iconst 1, 1) := by decide +kernel
theorem d_N_readsHouses_142 : decode prog_13_method_10_code 142 = .ok (.goto 14, 3) := by decide +kernel
theorem d_N_readsHouses_145 : decode prog_13_method_10_code 145 = .ok (.iload_n 3, 1) := by decide +kernel
theorem d_N_readsHouses_146 : decode prog_13_method_10_code 146 = .ok (.bipush 102, 2) := by decide +kernel
theorem d_N_readsHouses_148 : decode prog_13_method_10_code 148 = .ok (.if_icmp .ne 7, 3) := by decide +kernel
theorem d_N_readsHouses_151 : decode prog_13_method_10_code 151 = .ok (.iconst 2, 1) := by decide +kernel
theorem d_N_readsHouses_152 : decode prog_13_method_10_code 152 = .ok (.goto 4, 3) := by decide +kernel
theorem d_N_readsHouses_155 : decode prog_13_method_10_code 155 = .ok (.iconst 3, 1) := by decide +kernel
theorem d_N_readsHouses_156 : decode prog_13_method_10_code 156 = .ok (.iastore, 1) := by decide +kernel
theorem d_N_readsHouses_157 : decode prog_13_method_10_code 157 = .ok (.iinc 1 1, 3) := by decide +kernel
theorem d_N_readsHouses_160 : decode prog_13_method_10_code 160 = .ok (.iinc 2 3, 3) := by decide +kernel
theorem d_N_readsHouses_163 : decode prog_13_method_10_code 163 = .ok (.iload_n 2, 1) := by decide +kernel
theorem d_N_readsHouses_164 : decode prog_13_method_10_code 164 = .ok (.aload_n 0, 1) := by decide +kernel
theorem d_N_readsHouses_165 : decode prog_13_method_10_code 165 = .ok (.getfield 7, 3) := by decide +kernel
theorem d_N_readsHouses_168 : decode prog_13_method_10_code 168 = .ok (.iconst 0, 1) := by decide +kernel
theorem d_N_readsHouses_169 : decode prog_13_method_10_code 169 = .ok (.iaload, 1) := by decide +kernel
theorem d_N_readsHouses_170 : decode prog_13_method_10_code 170 = .ok (.if_icmp .ne 10, 3) := by decide +kernel
theorem d_N_readsHouses_173 : decode prog_13_method_10_code 173 = .ok (.aload_n 0, 1) := by decide +kernel
theorem d_N_readsHouses_174 : decode prog_13_method_10_code 174 = .ok (.iload_n 1, 1) := by decide +kernel
theorem d_N_readsHouses_175 : decode prog_13_method_10_code 175 = .ok (.putfield 109, 3) := by decide +kernel
theorem d_N_readsHouses_178 : decode prog_13_method_10_code 178 = .ok (.iconst (-1), 1) := by decide +kernel
theorem d_N_readsHouses_179 : decode prog_13_method_10_code 179 = .ok (.ireturn, 1) := by decide +kernel
theorem d_N_readsHouses_180 : decode prog_13_method_10_code 180 = .ok (.aload_n 0, 1) := by decide +kernel
theorem d_N_readsHouses_181 : decode prog_13_method_10_code 181 = .ok (.iconst 0, 1) := by decide +kernel
theorem d_N_readsHouses_182 : decode prog_13_method_10_code 182 = .ok (.iload_n 2, 1) := by decide +kernel
theorem d_N_readsHouses_183 : decode prog_13_method_10_code 183 = .ok (.invokevirtual 105, 3) := by decide +kernel
theorem d_N_readsHouses_186 : decode prog_13_method_10_code 186 = .ok (.bipush 59, 2) := by decide +kernel
theorem d_N_readsHouses_188 : decode prog_13_method_10_code 188 = .ok (.if_icmp .eq 5, 3) := by decide +kernel
theorem d_N_readsHouses_191 : decode prog_13_method_10_code 191 = .ok (.iload_n 2, 1) := by decide +kernel
theorem d_N_readsHouses_192 : decode prog_13_method_10_code 192 = .ok (.ireturn, 1) := by decide +kernel
theorem d_N_readsHouses_193 : decode prog_13_method_10_code 193 = .ok (.iinc 2 1, 3) := by decide +kernel
theorem d_N_readsHouses_196 : decode prog_13_method_10_code 196 = .ok (.goto (-187), 3) := by decide +kernel
theorem d_N_readsHouses_199 : decode prog_13_method_10_code 199 = .ok (.iconst (-1), 1) := by decide +kernel
theorem d_N_readsHouses_200 : decode prog_13_method_10_code 200 = .ok (.ireturn, 1) := by decide +kernel
def b_N_readsHouses_199 (c0 c1 : ra_Sp) (I : Nat → ra_K) (Z : ra_R) : ra_K := w_c (-1) <| w_ir Z
def b_N_readsHouses_193 (c0 c1 : ra_Sp) (I : Nat → ra_K) (Z : ra_R) : ra_K := w_inc 2 1 <| (I 9)
def b_N_readsHouses_191 (c0 c1 : ra_Sp) (I : Nat → ra_K) (Z : ra_R) : ra_K := w_il 2 <| w_ir Z
def b_N_readsHouses_180 (c0 c1 : ra_Sp) (I : Nat → ra_K) (Z : ra_R) : ra_K := w_al 0 <| w_c 0 <| w_il 2 <| w_cv c1 3 11 <| w_c 59 <| w_b2 (fun x y => x = y) (b_N_readsHouses_193 c0 c1 I Z) (b_N_readsHouses_191 c0 c1 I Z)
def b_N_readsHouses_173 (c0 c1 : ra_Sp) (I : Nat → ra_K) (Z : ra_R) : ra_K := w_al 0 <| w_il 1 <| w_pi 11 2 <| w_c (-1) <| w_ir Z
def b_N_readsHouses_156 (c0 c1 : ra_Sp) (I : Nat → ra_K) (Z : ra_R) : ra_K := w_ast <| w_inc 1 1 <| w_inc 2 3 <| w_il 2 <| w_al 0 <| w_gr 11 0 <| w_c 0 <| w_ald <| w_b2 (fun x y => x = y) (b_N_readsHouses_173 c0 c1 I Z) (b_N_readsHouses_180 c0 c1 I Z)
def b_N_readsHouses_155 (c0 c1 : ra_Sp) (I : Nat → ra_K) (Z : ra_R) : ra_K := w_c 3 <| (b_N_readsHouses_156 c0 c1 I Z)
def b_N_readsHouses_151 (c0 c1 : ra_Sp) (I : Nat → ra_K) (Z : ra_R) : ra_K := w_c 2 <| (b_N_readsHouses_156 c0 c1 I Z)
def b_N_readsHouses_145 (c0 c1 : ra_Sp) (I : Nat → ra_K) (Z : ra_R) : ra_K := w_il 3 <| w_c 102 <| w_b2 (fun x y => x = y) (b_N_readsHouses_151 c0 c1 I Z) (b_N_readsHouses_155 c0 c1 I Z)
def b_N_readsHouses_141 (c0 c1 : ra_Sp) (I : Nat → ra_K) (Z : ra_R) : ra_K := w_c 1 <| (b_N_readsHouses_156 c0 c1 I Z)
def b_N_readsHouses_135 (c0 c1 : ra_Sp) (I : Nat → ra_K) (Z : ra_R) : ra_K := w_il 3 <| w_c 103 <| w_b2 (fun x y => x = y) (b_N_readsHouses_141 c0 c1 I Z) (b_N_readsHouses_145 c0 c1 I Z)
def b_N_readsHouses_131 (c0 c1 : ra_Sp) (I : Nat → ra_K) (Z : ra_R) : ra_K := w_c 0 <| (b_N_readsHouses_156 c0 c1 I Z)
def b_N_readsHouses_94 (c0 c1 : ra_Sp) (I : Nat → ra_K) (Z : ra_R) : ra_K := w_al 0 <| w_gr 11 3 <| w_il 1 <| w_al 0 <| w_c 0 <| w_il 2 <| w_cv c0 3 11 <| w_ast <| w_al 0 <| w_gr 11 4 <| w_il 1 <| w_al 0 <| w_c 0 <| w_il 2 <| w_c 1 <| w_i2 (fun x y => x + y) <| w_cv c0 3 11 <| w_ast <| w_al 0 <| w_gr 11 5 <| w_il 1 <| w_il 3 <| w_c 107 <| w_b2 (fun x y => x = y) (b_N_readsHouses_131 c0 c1 I Z) (b_N_readsHouses_135 c0 c1 I Z)
def b_N_readsHouses_90 (c0 c1 : ra_Sp) (I : Nat → ra_K) (Z : ra_R) : ra_K := w_il 2 <| w_c 2 <| w_i2 (fun x y => x + y) <| w_ir Z
def b_N_readsHouses_84 (c0 c1 : ra_Sp) (I : Nat → ra_K) (Z : ra_R) : ra_K := w_il 3 <| w_c 108 <| w_b2 (fun x y => x = y) (b_N_readsHouses_94 c0 c1 I Z) (b_N_readsHouses_90 c0 c1 I Z)
def b_N_readsHouses_78 (c0 c1 : ra_Sp) (I : Nat → ra_K) (Z : ra_R) : ra_K := w_il 3 <| w_c 102 <| w_b2 (fun x y => x = y) (b_N_readsHouses_94 c0 c1 I Z) (b_N_readsHouses_84 c0 c1 I Z)
def b_N_readsHouses_72 (c0 c1 : ra_Sp) (I : Nat → ra_K) (Z : ra_R) : ra_K := w_il 3 <| w_c 103 <| w_b2 (fun x y => x = y) (b_N_readsHouses_94 c0 c1 I Z) (b_N_readsHouses_78 c0 c1 I Z)
def b_N_readsHouses_57 (c0 c1 : ra_Sp) (I : Nat → ra_K) (Z : ra_R) : ra_K := w_al 0 <| w_c 0 <| w_il 2 <| w_c 2 <| w_i2 (fun x y => x + y) <| w_cv c1 3 11 <| w_is 3 <| w_il 3 <| w_c 107 <| w_b2 (fun x y => x = y) (b_N_readsHouses_94 c0 c1 I Z) (b_N_readsHouses_72 c0 c1 I Z)
def b_N_readsHouses_53 (c0 c1 : ra_Sp) (I : Nat → ra_K) (Z : ra_R) : ra_K := w_il 2 <| w_c 1 <| w_i2 (fun x y => x + y) <| w_ir Z
def b_N_readsHouses_41 (c0 c1 : ra_Sp) (I : Nat → ra_K) (Z : ra_R) : ra_K := w_al 0 <| w_c 0 <| w_il 2 <| w_c 1 <| w_i2 (fun x y => x + y) <| w_cv c0 3 11 <| w_c (-1) <| w_b2 (fun x y => x = y) (b_N_readsHouses_53 c0 c1 I Z) (b_N_readsHouses_57 c0 c1 I Z)
def b_N_readsHouses_39 (c0 c1 : ra_Sp) (I : Nat → ra_K) (Z : ra_R) : ra_K := w_il 2 <| w_ir Z
def b_N_readsHouses_29 (c0 c1 : ra_Sp) (I : Nat → ra_K) (Z : ra_R) : ra_K := w_al 0 <| w_c 0 <| w_il 2 <| w_cv c0 3 11 <| w_c (-1) <| w_b2 (fun x y => x = y) (b_N_readsHouses_39 c0 c1 I Z) (b_N_readsHouses_41 c0 c1 I Z)
def b_N_readsHouses_23 (c0 c1 : ra_Sp) (I : Nat → ra_K) (Z : ra_R) : ra_K := w_il 1 <| w_c 8 <| w_b2 (fun x y => x = y) (b_N_readsHouses_39 c0 c1 I Z) (b_N_readsHouses_29 c0 c1 I Z)
def b_N_readsHouses_19 (c0 c1 : ra_Sp) (I : Nat → ra_K) (Z : ra_R) : ra_K := w_il 2 <| w_b1 (fun x => x ≤ 0) (b_N_readsHouses_199 c0 c1 I Z) (b_N_readsHouses_23 c0 c1 I Z)
def b_N_readsHouses_9 (c0 c1 : ra_Sp) (I : Nat → ra_K) (Z : ra_R) : ra_K := w_il 2 <| w_al 0 <| w_gr 11 0 <| w_c 0 <| w_ald <| w_b2 (fun x y => x < y) (b_N_readsHouses_23 c0 c1 I Z) (b_N_readsHouses_19 c0 c1 I Z)
def b_N_readsHouses_0 (c0 c1 : ra_Sp) (I : Nat → ra_K) (Z : ra_R) : ra_K := w_al 0 <| w_c 0 <| w_pi 11 2 <| w_c 0 <| w_is 1 <| w_c 0 <| w_is 2 <| (I 9)
theorem o_N_readsHouses_199 {X : ra_X} {p : Program} {l : Launch} {e : Env} {s : State} {m : MethodId} {args : Array Value} {below : List Frame} {meth : Method} {c : Code} {Z : ra_R} {c0 c1 : ra_Sp}  (h0 : ra_MOK l X mi_N_figureAt c0) (h1 : ra_MOK l X mi_N_byteAt c1) (F : ra_Fx X p rm_N_readsHouses s m args c prog_13_method_10_code 4 cn_N) (hr : meth.sig.returnType = (some .int)) (hlk : meth.locks = false) {I : Nat → ra_K} (hI : ∀ t ∈ [9], ra_At X p l e rm_N_readsHouses s m args below meth c 4 (MQ below (ra_Qc X Z) args s 0 0 (ra_A X)) (I t) t) : ra_At X p l e rm_N_readsHouses s m args below meth c 4 (MQ below (ra_Qc X Z) args s 0 0 (ra_A X)) (b_N_readsHouses_199 c0 c1 I Z) 199 :=
  r_iconst F d_N_readsHouses_199 (by decide) <| r_ireturn F hr hlk d_N_readsHouses_200
theorem o_N_readsHouses_193 {X : ra_X} {p : Program} {l : Launch} {e : Env} {s : State} {m : MethodId} {args : Array Value} {below : List Frame} {meth : Method} {c : Code} {Z : ra_R} {c0 c1 : ra_Sp}  (h0 : ra_MOK l X mi_N_figureAt c0) (h1 : ra_MOK l X mi_N_byteAt c1) (F : ra_Fx X p rm_N_readsHouses s m args c prog_13_method_10_code 4 cn_N) (hr : meth.sig.returnType = (some .int)) (hlk : meth.locks = false) {I : Nat → ra_K} (hI : ∀ t ∈ [9], ra_At X p l e rm_N_readsHouses s m args below meth c 4 (MQ below (ra_Qc X Z) args s 0 0 (ra_A X)) (I t) t) : ra_At X p l e rm_N_readsHouses s m args below meth c 4 (MQ below (ra_Qc X Z) args s 0 0 (ra_A X)) (b_N_readsHouses_193 c0 c1 I Z) 193 :=
  r_iinc F d_N_readsHouses_193 (by decide) (by decide) <| r_goto F d_N_readsHouses_196 (by decide) (hI 9 (by decide))
theorem o_N_readsHouses_191 {X : ra_X} {p : Program} {l : Launch} {e : Env} {s : State} {m : MethodId} {args : Array Value} {below : List Frame} {meth : Method} {c : Code} {Z : ra_R} {c0 c1 : ra_Sp}  (h0 : ra_MOK l X mi_N_figureAt c0) (h1 : ra_MOK l X mi_N_byteAt c1) (F : ra_Fx X p rm_N_readsHouses s m args c prog_13_method_10_code 4 cn_N) (hr : meth.sig.returnType = (some .int)) (hlk : meth.locks = false) {I : Nat → ra_K} (hI : ∀ t ∈ [9], ra_At X p l e rm_N_readsHouses s m args below meth c 4 (MQ below (ra_Qc X Z) args s 0 0 (ra_A X)) (I t) t) : ra_At X p l e rm_N_readsHouses s m args below meth c 4 (MQ below (ra_Qc X Z) args s 0 0 (ra_A X)) (b_N_readsHouses_191 c0 c1 I Z) 191 :=
  r_iload_n F d_N_readsHouses_191 rfl <| r_ireturn F hr hlk d_N_readsHouses_192
theorem o_N_readsHouses_180 {X : ra_X} {p : Program} {l : Launch} {e : Env} {s : State} {m : MethodId} {args : Array Value} {below : List Frame} {meth : Method} {c : Code} {Z : ra_R} {c0 c1 : ra_Sp}  (h0 : ra_MOK l X mi_N_figureAt c0) (h1 : ra_MOK l X mi_N_byteAt c1) (F : ra_Fx X p rm_N_readsHouses s m args c prog_13_method_10_code 4 cn_N) (hr : meth.sig.returnType = (some .int)) (hlk : meth.locks = false) {I : Nat → ra_K} (hI : ∀ t ∈ [9], ra_At X p l e rm_N_readsHouses s m args below meth c 4 (MQ below (ra_Qc X Z) args s 0 0 (ra_A X)) (I t) t) : ra_At X p l e rm_N_readsHouses s m args below meth c 4 (MQ below (ra_Qc X Z) args s 0 0 (ra_A X)) (b_N_readsHouses_180 c0 c1 I Z) 180 :=
  r_aload_n F d_N_readsHouses_180 rfl <| r_iconst F d_N_readsHouses_181 (by decide) <| r_iload_n F d_N_readsHouses_182 rfl <| r_callV F h1 (co_N_byteAt (by decide +kernel) (by decide +kernel)) ⟨rfl, by decide +kernel⟩ ⟨rfl, by decide⟩ ml_N_105 im_N_byteAt se_N_byteAt d_N_readsHouses_183 <| r_bipush F d_N_readsHouses_186 (by decide) <| r_icmp_eq F d_N_readsHouses_188 (by decide) (o_N_readsHouses_193 h0 h1 F hr hlk hI) (o_N_readsHouses_191 h0 h1 F hr hlk hI)
theorem o_N_readsHouses_173 {X : ra_X} {p : Program} {l : Launch} {e : Env} {s : State} {m : MethodId} {args : Array Value} {below : List Frame} {meth : Method} {c : Code} {Z : ra_R} {c0 c1 : ra_Sp}  (h0 : ra_MOK l X mi_N_figureAt c0) (h1 : ra_MOK l X mi_N_byteAt c1) (F : ra_Fx X p rm_N_readsHouses s m args c prog_13_method_10_code 4 cn_N) (hr : meth.sig.returnType = (some .int)) (hlk : meth.locks = false) {I : Nat → ra_K} (hI : ∀ t ∈ [9], ra_At X p l e rm_N_readsHouses s m args below meth c 4 (MQ below (ra_Qc X Z) args s 0 0 (ra_A X)) (I t) t) : ra_At X p l e rm_N_readsHouses s m args below meth c 4 (MQ below (ra_Qc X Z) args s 0 0 (ra_A X)) (b_N_readsHouses_173 c0 c1 I Z) 173 :=
  r_aload_n F d_N_readsHouses_173 rfl <| r_iload_n F d_N_readsHouses_174 rfl <| r_putI F cg_N (j := 2) (by decide) rfl rfl rfl fl_N_109 d_N_readsHouses_175 <| r_iconst F d_N_readsHouses_178 (by decide) <| r_ireturn F hr hlk d_N_readsHouses_179
theorem o_N_readsHouses_156 {X : ra_X} {p : Program} {l : Launch} {e : Env} {s : State} {m : MethodId} {args : Array Value} {below : List Frame} {meth : Method} {c : Code} {Z : ra_R} {c0 c1 : ra_Sp}  (h0 : ra_MOK l X mi_N_figureAt c0) (h1 : ra_MOK l X mi_N_byteAt c1) (F : ra_Fx X p rm_N_readsHouses s m args c prog_13_method_10_code 4 cn_N) (hr : meth.sig.returnType = (some .int)) (hlk : meth.locks = false) {I : Nat → ra_K} (hI : ∀ t ∈ [9], ra_At X p l e rm_N_readsHouses s m args below meth c 4 (MQ below (ra_Qc X Z) args s 0 0 (ra_A X)) (I t) t) : ra_At X p l e rm_N_readsHouses s m args below meth c 4 (MQ below (ra_Qc X Z) args s 0 0 (ra_A X)) (b_N_readsHouses_156 c0 c1 I Z) 156 :=
  r_iastore F d_N_readsHouses_156 <| r_iinc F d_N_readsHouses_157 (by decide) (by decide) <| r_iinc F d_N_readsHouses_160 (by decide) (by decide) <| r_iload_n F d_N_readsHouses_163 rfl <| r_aload_n F d_N_readsHouses_164 rfl <| r_getR F cg_N (j := 0) (by decide) rfl fl_N_7 d_N_readsHouses_165 <| r_iconst F d_N_readsHouses_168 (by decide) <| r_iaload F d_N_readsHouses_169 <| r_icmp_ne F d_N_readsHouses_170 (by decide) (o_N_readsHouses_180 h0 h1 F hr hlk hI) (o_N_readsHouses_173 h0 h1 F hr hlk hI)
theorem o_N_readsHouses_155 {X : ra_X} {p : Program} {l : Launch} {e : Env} {s : State} {m : MethodId} {args : Array Value} {below : List Frame} {meth : Method} {c : Code} {Z : ra_R} {c0 c1 : ra_Sp}  (h0 : ra_MOK l X mi_N_figureAt c0) (h1 : ra_MOK l X mi_N_byteAt c1) (F : ra_Fx X p rm_N_readsHouses s m args c prog_13_method_10_code 4 cn_N) (hr : meth.sig.returnType = (some .int)) (hlk : meth.locks = false) {I : Nat → ra_K} (hI : ∀ t ∈ [9], ra_At X p l e rm_N_readsHouses s m args below meth c 4 (MQ below (ra_Qc X Z) args s 0 0 (ra_A X)) (I t) t) : ra_At X p l e rm_N_readsHouses s m args below meth c 4 (MQ below (ra_Qc X Z) args s 0 0 (ra_A X)) (b_N_readsHouses_155 c0 c1 I Z) 155 :=
  r_iconst F d_N_readsHouses_155 (by decide) <| (o_N_readsHouses_156 h0 h1 F hr hlk hI)
theorem o_N_readsHouses_151 {X : ra_X} {p : Program} {l : Launch} {e : Env} {s : State} {m : MethodId} {args : Array Value} {below : List Frame} {meth : Method} {c : Code} {Z : ra_R} {c0 c1 : ra_Sp}  (h0 : ra_MOK l X mi_N_figureAt c0) (h1 : ra_MOK l X mi_N_byteAt c1) (F : ra_Fx X p rm_N_readsHouses s m args c prog_13_method_10_code 4 cn_N) (hr : meth.sig.returnType = (some .int)) (hlk : meth.locks = false) {I : Nat → ra_K} (hI : ∀ t ∈ [9], ra_At X p l e rm_N_readsHouses s m args below meth c 4 (MQ below (ra_Qc X Z) args s 0 0 (ra_A X)) (I t) t) : ra_At X p l e rm_N_readsHouses s m args below meth c 4 (MQ below (ra_Qc X Z) args s 0 0 (ra_A X)) (b_N_readsHouses_151 c0 c1 I Z) 151 :=
  r_iconst F d_N_readsHouses_151 (by decide) <| r_goto F d_N_readsHouses_152 (by decide) (o_N_readsHouses_156 h0 h1 F hr hlk hI)
theorem o_N_readsHouses_145 {X : ra_X} {p : Program} {l : Launch} {e : Env} {s : State} {m : MethodId} {args : Array Value} {below : List Frame} {meth : Method} {c : Code} {Z : ra_R} {c0 c1 : ra_Sp}  (h0 : ra_MOK l X mi_N_figureAt c0) (h1 : ra_MOK l X mi_N_byteAt c1) (F : ra_Fx X p rm_N_readsHouses s m args c prog_13_method_10_code 4 cn_N) (hr : meth.sig.returnType = (some .int)) (hlk : meth.locks = false) {I : Nat → ra_K} (hI : ∀ t ∈ [9], ra_At X p l e rm_N_readsHouses s m args below meth c 4 (MQ below (ra_Qc X Z) args s 0 0 (ra_A X)) (I t) t) : ra_At X p l e rm_N_readsHouses s m args below meth c 4 (MQ below (ra_Qc X Z) args s 0 0 (ra_A X)) (b_N_readsHouses_145 c0 c1 I Z) 145 :=
  r_iload_n F d_N_readsHouses_145 rfl <| r_bipush F d_N_readsHouses_146 (by decide) <| r_icmp_ne F d_N_readsHouses_148 (by decide) (o_N_readsHouses_155 h0 h1 F hr hlk hI) (o_N_readsHouses_151 h0 h1 F hr hlk hI)
theorem o_N_readsHouses_141 {X : ra_X} {p : Program} {l : Launch} {e : Env} {s : State} {m : MethodId} {args : Array Value} {below : List Frame} {meth : Method} {c : Code} {Z : ra_R} {c0 c1 : ra_Sp}  (h0 : ra_MOK l X mi_N_figureAt c0) (h1 : ra_MOK l X mi_N_byteAt c1) (F : ra_Fx X p rm_N_readsHouses s m args c prog_13_method_10_code 4 cn_N) (hr : meth.sig.returnType = (some .int)) (hlk : meth.locks = false) {I : Nat → ra_K} (hI : ∀ t ∈ [9], ra_At X p l e rm_N_readsHouses s m args below meth c 4 (MQ below (ra_Qc X Z) args s 0 0 (ra_A X)) (I t) t) : ra_At X p l e rm_N_readsHouses s m args below meth c 4 (MQ below (ra_Qc X Z) args s 0 0 (ra_A X)) (b_N_readsHouses_141 c0 c1 I Z) 141 :=
  r_iconst F d_N_readsHouses_141 (by decide) <| r_goto F d_N_readsHouses_142 (by decide) (o_N_readsHouses_156 h0 h1 F hr hlk hI)
theorem o_N_readsHouses_135 {X : ra_X} {p : Program} {l : Launch} {e : Env} {s : State} {m : MethodId} {args : Array Value} {below : List Frame} {meth : Method} {c : Code} {Z : ra_R} {c0 c1 : ra_Sp}  (h0 : ra_MOK l X mi_N_figureAt c0) (h1 : ra_MOK l X mi_N_byteAt c1) (F : ra_Fx X p rm_N_readsHouses s m args c prog_13_method_10_code 4 cn_N) (hr : meth.sig.returnType = (some .int)) (hlk : meth.locks = false) {I : Nat → ra_K} (hI : ∀ t ∈ [9], ra_At X p l e rm_N_readsHouses s m args below meth c 4 (MQ below (ra_Qc X Z) args s 0 0 (ra_A X)) (I t) t) : ra_At X p l e rm_N_readsHouses s m args below meth c 4 (MQ below (ra_Qc X Z) args s 0 0 (ra_A X)) (b_N_readsHouses_135 c0 c1 I Z) 135 :=
  r_iload_n F d_N_readsHouses_135 rfl <| r_bipush F d_N_readsHouses_136 (by decide) <| r_icmp_ne F d_N_readsHouses_138 (by decide) (o_N_readsHouses_145 h0 h1 F hr hlk hI) (o_N_readsHouses_141 h0 h1 F hr hlk hI)
theorem o_N_readsHouses_131 {X : ra_X} {p : Program} {l : Launch} {e : Env} {s : State} {m : MethodId} {args : Array Value} {below : List Frame} {meth : Method} {c : Code} {Z : ra_R} {c0 c1 : ra_Sp}  (h0 : ra_MOK l X mi_N_figureAt c0) (h1 : ra_MOK l X mi_N_byteAt c1) (F : ra_Fx X p rm_N_readsHouses s m args c prog_13_method_10_code 4 cn_N) (hr : meth.sig.returnType = (some .int)) (hlk : meth.locks = false) {I : Nat → ra_K} (hI : ∀ t ∈ [9], ra_At X p l e rm_N_readsHouses s m args below meth c 4 (MQ below (ra_Qc X Z) args s 0 0 (ra_A X)) (I t) t) : ra_At X p l e rm_N_readsHouses s m args below meth c 4 (MQ below (ra_Qc X Z) args s 0 0 (ra_A X)) (b_N_readsHouses_131 c0 c1 I Z) 131 :=
  r_iconst F d_N_readsHouses_131 (by decide) <| r_goto F d_N_readsHouses_132 (by decide) (o_N_readsHouses_156 h0 h1 F hr hlk hI)
theorem o_N_readsHouses_94 {X : ra_X} {p : Program} {l : Launch} {e : Env} {s : State} {m : MethodId} {args : Array Value} {below : List Frame} {meth : Method} {c : Code} {Z : ra_R} {c0 c1 : ra_Sp}  (h0 : ra_MOK l X mi_N_figureAt c0) (h1 : ra_MOK l X mi_N_byteAt c1) (F : ra_Fx X p rm_N_readsHouses s m args c prog_13_method_10_code 4 cn_N) (hr : meth.sig.returnType = (some .int)) (hlk : meth.locks = false) {I : Nat → ra_K} (hI : ∀ t ∈ [9], ra_At X p l e rm_N_readsHouses s m args below meth c 4 (MQ below (ra_Qc X Z) args s 0 0 (ra_A X)) (I t) t) : ra_At X p l e rm_N_readsHouses s m args below meth c 4 (MQ below (ra_Qc X Z) args s 0 0 (ra_A X)) (b_N_readsHouses_94 c0 c1 I Z) 94 :=
  r_aload_n F d_N_readsHouses_94 rfl <| r_getR F cg_N (j := 3) (by decide) rfl fl_N_16 d_N_readsHouses_95 <| r_iload_n F d_N_readsHouses_98 rfl <| r_aload_n F d_N_readsHouses_99 rfl <| r_iconst F d_N_readsHouses_100 (by decide) <| r_iload_n F d_N_readsHouses_101 rfl <| r_callV F h0 (co_N_figureAt (by decide +kernel) (by decide +kernel)) ⟨rfl, by decide +kernel⟩ ⟨rfl, by decide⟩ ml_N_113 im_N_figureAt se_N_figureAt d_N_readsHouses_102 <| r_iastore F d_N_readsHouses_105 <| r_aload_n F d_N_readsHouses_106 rfl <| r_getR F cg_N (j := 4) (by decide) rfl fl_N_19 d_N_readsHouses_107 <| r_iload_n F d_N_readsHouses_110 rfl <| r_aload_n F d_N_readsHouses_111 rfl <| r_iconst F d_N_readsHouses_112 (by decide) <| r_iload_n F d_N_readsHouses_113 rfl <| r_iconst F d_N_readsHouses_114 (by decide) <| r_iadd F d_N_readsHouses_115 <| r_callV F h0 (co_N_figureAt (by decide +kernel) (by decide +kernel)) ⟨rfl, by decide +kernel⟩ ⟨rfl, by decide⟩ ml_N_113 im_N_figureAt se_N_figureAt d_N_readsHouses_116 <| r_iastore F d_N_readsHouses_119 <| r_aload_n F d_N_readsHouses_120 rfl <| r_getR F cg_N (j := 5) (by decide) rfl fl_N_22 d_N_readsHouses_121 <| r_iload_n F d_N_readsHouses_124 rfl <| r_iload_n F d_N_readsHouses_125 rfl <| r_bipush F d_N_readsHouses_126 (by decide) <| r_icmp_ne F d_N_readsHouses_128 (by decide) (o_N_readsHouses_135 h0 h1 F hr hlk hI) (o_N_readsHouses_131 h0 h1 F hr hlk hI)
theorem o_N_readsHouses_90 {X : ra_X} {p : Program} {l : Launch} {e : Env} {s : State} {m : MethodId} {args : Array Value} {below : List Frame} {meth : Method} {c : Code} {Z : ra_R} {c0 c1 : ra_Sp}  (h0 : ra_MOK l X mi_N_figureAt c0) (h1 : ra_MOK l X mi_N_byteAt c1) (F : ra_Fx X p rm_N_readsHouses s m args c prog_13_method_10_code 4 cn_N) (hr : meth.sig.returnType = (some .int)) (hlk : meth.locks = false) {I : Nat → ra_K} (hI : ∀ t ∈ [9], ra_At X p l e rm_N_readsHouses s m args below meth c 4 (MQ below (ra_Qc X Z) args s 0 0 (ra_A X)) (I t) t) : ra_At X p l e rm_N_readsHouses s m args below meth c 4 (MQ below (ra_Qc X Z) args s 0 0 (ra_A X)) (b_N_readsHouses_90 c0 c1 I Z) 90 :=
  r_iload_n F d_N_readsHouses_90 rfl <| r_iconst F d_N_readsHouses_91 (by decide) <| r_iadd F d_N_readsHouses_92 <| r_ireturn F hr hlk d_N_readsHouses_93
theorem o_N_readsHouses_84 {X : ra_X} {p : Program} {l : Launch} {e : Env} {s : State} {m : MethodId} {args : Array Value} {below : List Frame} {meth : Method} {c : Code} {Z : ra_R} {c0 c1 : ra_Sp}  (h0 : ra_MOK l X mi_N_figureAt c0) (h1 : ra_MOK l X mi_N_byteAt c1) (F : ra_Fx X p rm_N_readsHouses s m args c prog_13_method_10_code 4 cn_N) (hr : meth.sig.returnType = (some .int)) (hlk : meth.locks = false) {I : Nat → ra_K} (hI : ∀ t ∈ [9], ra_At X p l e rm_N_readsHouses s m args below meth c 4 (MQ below (ra_Qc X Z) args s 0 0 (ra_A X)) (I t) t) : ra_At X p l e rm_N_readsHouses s m args below meth c 4 (MQ below (ra_Qc X Z) args s 0 0 (ra_A X)) (b_N_readsHouses_84 c0 c1 I Z) 84 :=
  r_iload_n F d_N_readsHouses_84 rfl <| r_bipush F d_N_readsHouses_85 (by decide) <| r_icmp_eq F d_N_readsHouses_87 (by decide) (o_N_readsHouses_94 h0 h1 F hr hlk hI) (o_N_readsHouses_90 h0 h1 F hr hlk hI)
theorem o_N_readsHouses_78 {X : ra_X} {p : Program} {l : Launch} {e : Env} {s : State} {m : MethodId} {args : Array Value} {below : List Frame} {meth : Method} {c : Code} {Z : ra_R} {c0 c1 : ra_Sp}  (h0 : ra_MOK l X mi_N_figureAt c0) (h1 : ra_MOK l X mi_N_byteAt c1) (F : ra_Fx X p rm_N_readsHouses s m args c prog_13_method_10_code 4 cn_N) (hr : meth.sig.returnType = (some .int)) (hlk : meth.locks = false) {I : Nat → ra_K} (hI : ∀ t ∈ [9], ra_At X p l e rm_N_readsHouses s m args below meth c 4 (MQ below (ra_Qc X Z) args s 0 0 (ra_A X)) (I t) t) : ra_At X p l e rm_N_readsHouses s m args below meth c 4 (MQ below (ra_Qc X Z) args s 0 0 (ra_A X)) (b_N_readsHouses_78 c0 c1 I Z) 78 :=
  r_iload_n F d_N_readsHouses_78 rfl <| r_bipush F d_N_readsHouses_79 (by decide) <| r_icmp_eq F d_N_readsHouses_81 (by decide) (o_N_readsHouses_94 h0 h1 F hr hlk hI) (o_N_readsHouses_84 h0 h1 F hr hlk hI)
theorem o_N_readsHouses_72 {X : ra_X} {p : Program} {l : Launch} {e : Env} {s : State} {m : MethodId} {args : Array Value} {below : List Frame} {meth : Method} {c : Code} {Z : ra_R} {c0 c1 : ra_Sp}  (h0 : ra_MOK l X mi_N_figureAt c0) (h1 : ra_MOK l X mi_N_byteAt c1) (F : ra_Fx X p rm_N_readsHouses s m args c prog_13_method_10_code 4 cn_N) (hr : meth.sig.returnType = (some .int)) (hlk : meth.locks = false) {I : Nat → ra_K} (hI : ∀ t ∈ [9], ra_At X p l e rm_N_readsHouses s m args below meth c 4 (MQ below (ra_Qc X Z) args s 0 0 (ra_A X)) (I t) t) : ra_At X p l e rm_N_readsHouses s m args below meth c 4 (MQ below (ra_Qc X Z) args s 0 0 (ra_A X)) (b_N_readsHouses_72 c0 c1 I Z) 72 :=
  r_iload_n F d_N_readsHouses_72 rfl <| r_bipush F d_N_readsHouses_73 (by decide) <| r_icmp_eq F d_N_readsHouses_75 (by decide) (o_N_readsHouses_94 h0 h1 F hr hlk hI) (o_N_readsHouses_78 h0 h1 F hr hlk hI)
theorem o_N_readsHouses_57 {X : ra_X} {p : Program} {l : Launch} {e : Env} {s : State} {m : MethodId} {args : Array Value} {below : List Frame} {meth : Method} {c : Code} {Z : ra_R} {c0 c1 : ra_Sp}  (h0 : ra_MOK l X mi_N_figureAt c0) (h1 : ra_MOK l X mi_N_byteAt c1) (F : ra_Fx X p rm_N_readsHouses s m args c prog_13_method_10_code 4 cn_N) (hr : meth.sig.returnType = (some .int)) (hlk : meth.locks = false) {I : Nat → ra_K} (hI : ∀ t ∈ [9], ra_At X p l e rm_N_readsHouses s m args below meth c 4 (MQ below (ra_Qc X Z) args s 0 0 (ra_A X)) (I t) t) : ra_At X p l e rm_N_readsHouses s m args below meth c 4 (MQ below (ra_Qc X Z) args s 0 0 (ra_A X)) (b_N_readsHouses_57 c0 c1 I Z) 57 :=
  r_aload_n F d_N_readsHouses_57 rfl <| r_iconst F d_N_readsHouses_58 (by decide) <| r_iload_n F d_N_readsHouses_59 rfl <| r_iconst F d_N_readsHouses_60 (by decide) <| r_iadd F d_N_readsHouses_61 <| r_callV F h1 (co_N_byteAt (by decide +kernel) (by decide +kernel)) ⟨rfl, by decide +kernel⟩ ⟨rfl, by decide⟩ ml_N_105 im_N_byteAt se_N_byteAt d_N_readsHouses_62 <| r_istore_n F d_N_readsHouses_65 rfl (by decide) <| r_iload_n F d_N_readsHouses_66 rfl <| r_bipush F d_N_readsHouses_67 (by decide) <| r_icmp_eq F d_N_readsHouses_69 (by decide) (o_N_readsHouses_94 h0 h1 F hr hlk hI) (o_N_readsHouses_72 h0 h1 F hr hlk hI)
theorem o_N_readsHouses_53 {X : ra_X} {p : Program} {l : Launch} {e : Env} {s : State} {m : MethodId} {args : Array Value} {below : List Frame} {meth : Method} {c : Code} {Z : ra_R} {c0 c1 : ra_Sp}  (h0 : ra_MOK l X mi_N_figureAt c0) (h1 : ra_MOK l X mi_N_byteAt c1) (F : ra_Fx X p rm_N_readsHouses s m args c prog_13_method_10_code 4 cn_N) (hr : meth.sig.returnType = (some .int)) (hlk : meth.locks = false) {I : Nat → ra_K} (hI : ∀ t ∈ [9], ra_At X p l e rm_N_readsHouses s m args below meth c 4 (MQ below (ra_Qc X Z) args s 0 0 (ra_A X)) (I t) t) : ra_At X p l e rm_N_readsHouses s m args below meth c 4 (MQ below (ra_Qc X Z) args s 0 0 (ra_A X)) (b_N_readsHouses_53 c0 c1 I Z) 53 :=
  r_iload_n F d_N_readsHouses_53 rfl <| r_iconst F d_N_readsHouses_54 (by decide) <| r_iadd F d_N_readsHouses_55 <| r_ireturn F hr hlk d_N_readsHouses_56
theorem o_N_readsHouses_41 {X : ra_X} {p : Program} {l : Launch} {e : Env} {s : State} {m : MethodId} {args : Array Value} {below : List Frame} {meth : Method} {c : Code} {Z : ra_R} {c0 c1 : ra_Sp}  (h0 : ra_MOK l X mi_N_figureAt c0) (h1 : ra_MOK l X mi_N_byteAt c1) (F : ra_Fx X p rm_N_readsHouses s m args c prog_13_method_10_code 4 cn_N) (hr : meth.sig.returnType = (some .int)) (hlk : meth.locks = false) {I : Nat → ra_K} (hI : ∀ t ∈ [9], ra_At X p l e rm_N_readsHouses s m args below meth c 4 (MQ below (ra_Qc X Z) args s 0 0 (ra_A X)) (I t) t) : ra_At X p l e rm_N_readsHouses s m args below meth c 4 (MQ below (ra_Qc X Z) args s 0 0 (ra_A X)) (b_N_readsHouses_41 c0 c1 I Z) 41 :=
  r_aload_n F d_N_readsHouses_41 rfl <| r_iconst F d_N_readsHouses_42 (by decide) <| r_iload_n F d_N_readsHouses_43 rfl <| r_iconst F d_N_readsHouses_44 (by decide) <| r_iadd F d_N_readsHouses_45 <| r_callV F h0 (co_N_figureAt (by decide +kernel) (by decide +kernel)) ⟨rfl, by decide +kernel⟩ ⟨rfl, by decide⟩ ml_N_113 im_N_figureAt se_N_figureAt d_N_readsHouses_46 <| r_iconst F d_N_readsHouses_49 (by decide) <| r_icmp_ne F d_N_readsHouses_50 (by decide) (o_N_readsHouses_57 h0 h1 F hr hlk hI) (o_N_readsHouses_53 h0 h1 F hr hlk hI)
theorem o_N_readsHouses_39 {X : ra_X} {p : Program} {l : Launch} {e : Env} {s : State} {m : MethodId} {args : Array Value} {below : List Frame} {meth : Method} {c : Code} {Z : ra_R} {c0 c1 : ra_Sp}  (h0 : ra_MOK l X mi_N_figureAt c0) (h1 : ra_MOK l X mi_N_byteAt c1) (F : ra_Fx X p rm_N_readsHouses s m args c prog_13_method_10_code 4 cn_N) (hr : meth.sig.returnType = (some .int)) (hlk : meth.locks = false) {I : Nat → ra_K} (hI : ∀ t ∈ [9], ra_At X p l e rm_N_readsHouses s m args below meth c 4 (MQ below (ra_Qc X Z) args s 0 0 (ra_A X)) (I t) t) : ra_At X p l e rm_N_readsHouses s m args below meth c 4 (MQ below (ra_Qc X Z) args s 0 0 (ra_A X)) (b_N_readsHouses_39 c0 c1 I Z) 39 :=
  r_iload_n F d_N_readsHouses_39 rfl <| r_ireturn F hr hlk d_N_readsHouses_40
theorem o_N_readsHouses_29 {X : ra_X} {p : Program} {l : Launch} {e : Env} {s : State} {m : MethodId} {args : Array Value} {below : List Frame} {meth : Method} {c : Code} {Z : ra_R} {c0 c1 : ra_Sp}  (h0 : ra_MOK l X mi_N_figureAt c0) (h1 : ra_MOK l X mi_N_byteAt c1) (F : ra_Fx X p rm_N_readsHouses s m args c prog_13_method_10_code 4 cn_N) (hr : meth.sig.returnType = (some .int)) (hlk : meth.locks = false) {I : Nat → ra_K} (hI : ∀ t ∈ [9], ra_At X p l e rm_N_readsHouses s m args below meth c 4 (MQ below (ra_Qc X Z) args s 0 0 (ra_A X)) (I t) t) : ra_At X p l e rm_N_readsHouses s m args below meth c 4 (MQ below (ra_Qc X Z) args s 0 0 (ra_A X)) (b_N_readsHouses_29 c0 c1 I Z) 29 :=
  r_aload_n F d_N_readsHouses_29 rfl <| r_iconst F d_N_readsHouses_30 (by decide) <| r_iload_n F d_N_readsHouses_31 rfl <| r_callV F h0 (co_N_figureAt (by decide +kernel) (by decide +kernel)) ⟨rfl, by decide +kernel⟩ ⟨rfl, by decide⟩ ml_N_113 im_N_figureAt se_N_figureAt d_N_readsHouses_32 <| r_iconst F d_N_readsHouses_35 (by decide) <| r_icmp_ne F d_N_readsHouses_36 (by decide) (o_N_readsHouses_41 h0 h1 F hr hlk hI) (o_N_readsHouses_39 h0 h1 F hr hlk hI)
theorem o_N_readsHouses_23 {X : ra_X} {p : Program} {l : Launch} {e : Env} {s : State} {m : MethodId} {args : Array Value} {below : List Frame} {meth : Method} {c : Code} {Z : ra_R} {c0 c1 : ra_Sp}  (h0 : ra_MOK l X mi_N_figureAt c0) (h1 : ra_MOK l X mi_N_byteAt c1) (F : ra_Fx X p rm_N_readsHouses s m args c prog_13_method_10_code 4 cn_N) (hr : meth.sig.returnType = (some .int)) (hlk : meth.locks = false) {I : Nat → ra_K} (hI : ∀ t ∈ [9], ra_At X p l e rm_N_readsHouses s m args below meth c 4 (MQ below (ra_Qc X Z) args s 0 0 (ra_A X)) (I t) t) : ra_At X p l e rm_N_readsHouses s m args below meth c 4 (MQ below (ra_Qc X Z) args s 0 0 (ra_A X)) (b_N_readsHouses_23 c0 c1 I Z) 23 :=
  r_iload_n F d_N_readsHouses_23 rfl <| r_bipush F d_N_readsHouses_24 (by decide) <| r_icmp_eq F d_N_readsHouses_26 (by decide) (o_N_readsHouses_39 h0 h1 F hr hlk hI) (o_N_readsHouses_29 h0 h1 F hr hlk hI)
theorem o_N_readsHouses_19 {X : ra_X} {p : Program} {l : Launch} {e : Env} {s : State} {m : MethodId} {args : Array Value} {below : List Frame} {meth : Method} {c : Code} {Z : ra_R} {c0 c1 : ra_Sp}  (h0 : ra_MOK l X mi_N_figureAt c0) (h1 : ra_MOK l X mi_N_byteAt c1) (F : ra_Fx X p rm_N_readsHouses s m args c prog_13_method_10_code 4 cn_N) (hr : meth.sig.returnType = (some .int)) (hlk : meth.locks = false) {I : Nat → ra_K} (hI : ∀ t ∈ [9], ra_At X p l e rm_N_readsHouses s m args below meth c 4 (MQ below (ra_Qc X Z) args s 0 0 (ra_A X)) (I t) t) : ra_At X p l e rm_N_readsHouses s m args below meth c 4 (MQ below (ra_Qc X Z) args s 0 0 (ra_A X)) (b_N_readsHouses_19 c0 c1 I Z) 19 :=
  r_iload_n F d_N_readsHouses_19 rfl <| r_if_le F d_N_readsHouses_20 (by decide) (o_N_readsHouses_199 h0 h1 F hr hlk hI) (o_N_readsHouses_23 h0 h1 F hr hlk hI)
theorem o_N_readsHouses_9 {X : ra_X} {p : Program} {l : Launch} {e : Env} {s : State} {m : MethodId} {args : Array Value} {below : List Frame} {meth : Method} {c : Code} {Z : ra_R} {c0 c1 : ra_Sp}  (h0 : ra_MOK l X mi_N_figureAt c0) (h1 : ra_MOK l X mi_N_byteAt c1) (F : ra_Fx X p rm_N_readsHouses s m args c prog_13_method_10_code 4 cn_N) (hr : meth.sig.returnType = (some .int)) (hlk : meth.locks = false) {I : Nat → ra_K} (hI : ∀ t ∈ [9], ra_At X p l e rm_N_readsHouses s m args below meth c 4 (MQ below (ra_Qc X Z) args s 0 0 (ra_A X)) (I t) t) : ra_At X p l e rm_N_readsHouses s m args below meth c 4 (MQ below (ra_Qc X Z) args s 0 0 (ra_A X)) (b_N_readsHouses_9 c0 c1 I Z) 9 :=
  r_iload_n F d_N_readsHouses_9 rfl <| r_aload_n F d_N_readsHouses_10 rfl <| r_getR F cg_N (j := 0) (by decide) rfl fl_N_7 d_N_readsHouses_11 <| r_iconst F d_N_readsHouses_14 (by decide) <| r_iaload F d_N_readsHouses_15 <| r_icmp_lt F d_N_readsHouses_16 (by decide) (o_N_readsHouses_23 h0 h1 F hr hlk hI) (o_N_readsHouses_19 h0 h1 F hr hlk hI)
theorem o_N_readsHouses_0 {X : ra_X} {p : Program} {l : Launch} {e : Env} {s : State} {m : MethodId} {args : Array Value} {below : List Frame} {meth : Method} {c : Code} {Z : ra_R} {c0 c1 : ra_Sp}  (h0 : ra_MOK l X mi_N_figureAt c0) (h1 : ra_MOK l X mi_N_byteAt c1) (F : ra_Fx X p rm_N_readsHouses s m args c prog_13_method_10_code 4 cn_N) (hr : meth.sig.returnType = (some .int)) (hlk : meth.locks = false) {I : Nat → ra_K} (hI : ∀ t ∈ [9], ra_At X p l e rm_N_readsHouses s m args below meth c 4 (MQ below (ra_Qc X Z) args s 0 0 (ra_A X)) (I t) t) : ra_At X p l e rm_N_readsHouses s m args below meth c 4 (MQ below (ra_Qc X Z) args s 0 0 (ra_A X)) (b_N_readsHouses_0 c0 c1 I Z) 0 :=
  r_aload_n F d_N_readsHouses_0 rfl <| r_iconst F d_N_readsHouses_1 (by decide) <| r_putI F cg_N (j := 2) (by decide) rfl rfl rfl fl_N_109 d_N_readsHouses_2 <| r_iconst F d_N_readsHouses_5 (by decide) <| r_istore_n F d_N_readsHouses_6 rfl (by decide) <| r_iconst F d_N_readsHouses_7 (by decide) <| r_istore_n F d_N_readsHouses_8 rfl (by decide) <| (hI 9 (by decide))
theorem g_N_readsHouses {l : Launch} {X : ra_X} {c0 c1 : ra_Sp}  (h0 : ra_MOK l X mi_N_figureAt c0) (h1 : ra_MOK l X mi_N_byteAt c1) (sp : ra_Sp) (I : ra_R → List Value → ra_St → Nat → ra_M → ra_K) (ve : ∀ as σ Z, ra_c1 as = true → as.length = 1 → sp as σ Z → b_N_readsHouses_0 c0 c1 (ra_I (I Z as σ)) Z (ra_pad 4 as) [] σ) (v9 : ∀ as σ Z, sp as σ Z → ∀ μ L S σ1, I Z as σ 9 μ L S σ1 → b_N_readsHouses_9 c0 c1 (ra_J (I Z as σ) μ) Z L S σ1) : ra_MOK l X mi_N_readsHouses sp := by
  refine ra_enter (k := fun Z as σ => b_N_readsHouses_0 c0 c1 (ra_I (I Z as σ)) Z) cn_N rfl (by decide +kernel) ⟨by decide +kernel, by decide +kernel⟩ (by decide +kernel) ?_ ve
  intro p e s m args below meth c Z as σ hsp F hr hlk
  refine o_N_readsHouses_0 h0 h1 F hr hlk (ra_cuts (b := fun t J => if t = 9 then b_N_readsHouses_9 c0 c1 J Z else fun _ _ _ => False) ?_ ?_)
  · intro t ht J hJ
    simp only [List.mem_cons, List.not_mem_nil, or_false] at ht
    rcases ht with rfl
    · exact o_N_readsHouses_9 h0 h1 F hr hlk hJ
  · intro t ht μ L S σ1 hI
    simp only [List.mem_cons, List.not_mem_nil, or_false] at ht
    rcases ht with rfl
    · exact v9 as σ Z hsp μ L S σ1 hI

theorem d_N_isIn_0 : decode prog_13_method_4_code 0 = .ok (.iload_n 0, 1) := by decide +kernel
theorem d_N_isIn_1 : decode prog_13_method_4_code 1 = .ok (.iload_n 1, 1) := by decide +kernel
theorem d_N_isIn_2 : decode prog_13_method_4_code 2 = .ok (.ishr, 1) := by decide +kernel
theorem d_N_isIn_3 : decode prog_13_method_4_code 3 = .ok (.iconst 1, 1) := by decide +kernel
theorem d_N_isIn_4 : decode prog_13_method_4_code 4 = .ok (.iand, 1) := by decide +kernel
theorem d_N_isIn_5 : decode prog_13_method_4_code 5 = .ok (.iconst 1, 1) := by decide +kernel
theorem d_N_isIn_6 : decode prog_13_method_4_code 6 = .ok (.if_icmp .ne 7, 3) := by decide +kernel
theorem d_N_isIn_9 : decode prog_13_method_4_code 9 = .ok (.iconst 1, 1) := by decide +kernel
theorem d_N_isIn_10 : decode prog_13_method_4_code 10 = .ok (.goto 4, 3) := by decide +kernel
theorem d_N_isIn_13 : decode prog_13_method_4_code 13 = .ok (.iconst 0, 1) := by decide +kernel
theorem d_N_isIn_14 : decode prog_13_method_4_code 14 = .ok (.ireturn, 1) := by decide +kernel
def b_N_isIn_14 (Z : ra_R) : ra_K := w_zr Z
def b_N_isIn_13 (Z : ra_R) : ra_K := w_c 0 <| (b_N_isIn_14 Z)
def b_N_isIn_9 (Z : ra_R) : ra_K := w_c 1 <| (b_N_isIn_14 Z)
def b_N_isIn_0 (Z : ra_R) : ra_K := w_il 0 <| w_il 1 <| w_i2 (fun x y => x >>> (y &&& 31)) <| w_c 1 <| w_i2 (fun x y => x &&& y) <| w_c 1 <| w_b2 (fun x y => x = y) (b_N_isIn_9 Z) (b_N_isIn_13 Z)
theorem o_N_isIn_14 {X : ra_X} {p : Program} {l : Launch} {e : Env} {s : State} {m : MethodId} {args : Array Value} {below : List Frame} {meth : Method} {c : Code} {Z : ra_R}  (F : ra_Fx X p rm_N_isIn s m args c prog_13_method_4_code 2 cn_N) (hr : meth.sig.returnType = (some .boolean)) (hlk : meth.locks = false) : ra_At X p l e rm_N_isIn s m args below meth c 2 (MQ below (ra_Qc X Z) args s 0 0 (ra_A X)) (b_N_isIn_14 Z) 14 :=
  r_zreturn F hr hlk d_N_isIn_14
theorem o_N_isIn_13 {X : ra_X} {p : Program} {l : Launch} {e : Env} {s : State} {m : MethodId} {args : Array Value} {below : List Frame} {meth : Method} {c : Code} {Z : ra_R}  (F : ra_Fx X p rm_N_isIn s m args c prog_13_method_4_code 2 cn_N) (hr : meth.sig.returnType = (some .boolean)) (hlk : meth.locks = false) : ra_At X p l e rm_N_isIn s m args below meth c 2 (MQ below (ra_Qc X Z) args s 0 0 (ra_A X)) (b_N_isIn_13 Z) 13 :=
  r_iconst F d_N_isIn_13 (by decide) <| (o_N_isIn_14 F hr hlk)
theorem o_N_isIn_9 {X : ra_X} {p : Program} {l : Launch} {e : Env} {s : State} {m : MethodId} {args : Array Value} {below : List Frame} {meth : Method} {c : Code} {Z : ra_R}  (F : ra_Fx X p rm_N_isIn s m args c prog_13_method_4_code 2 cn_N) (hr : meth.sig.returnType = (some .boolean)) (hlk : meth.locks = false) : ra_At X p l e rm_N_isIn s m args below meth c 2 (MQ below (ra_Qc X Z) args s 0 0 (ra_A X)) (b_N_isIn_9 Z) 9 :=
  r_iconst F d_N_isIn_9 (by decide) <| r_goto F d_N_isIn_10 (by decide) (o_N_isIn_14 F hr hlk)
theorem o_N_isIn_0 {X : ra_X} {p : Program} {l : Launch} {e : Env} {s : State} {m : MethodId} {args : Array Value} {below : List Frame} {meth : Method} {c : Code} {Z : ra_R}  (F : ra_Fx X p rm_N_isIn s m args c prog_13_method_4_code 2 cn_N) (hr : meth.sig.returnType = (some .boolean)) (hlk : meth.locks = false) : ra_At X p l e rm_N_isIn s m args below meth c 2 (MQ below (ra_Qc X Z) args s 0 0 (ra_A X)) (b_N_isIn_0 Z) 0 :=
  r_iload_n F d_N_isIn_0 rfl <| r_iload_n F d_N_isIn_1 rfl <| r_ishr F d_N_isIn_2 <| r_iconst F d_N_isIn_3 (by decide) <| r_iand F d_N_isIn_4 <| r_iconst F d_N_isIn_5 (by decide) <| r_icmp_ne F d_N_isIn_6 (by decide) (o_N_isIn_13 F hr hlk) (o_N_isIn_9 F hr hlk)
theorem g_N_isIn {l : Launch} {X : ra_X}  (sp : ra_Sp) (ve : ∀ as σ Z, ra_c1 as = true → as.length = 2 → sp as σ Z → b_N_isIn_0 Z (ra_pad 2 as) [] σ) : ra_MOK l X mi_N_isIn sp := by
  refine ra_enter (k := fun Z as σ => b_N_isIn_0 Z) cn_N rfl (by decide +kernel) ⟨by decide +kernel, by decide +kernel⟩ (by decide +kernel) ?_ ve
  intro p e s m args below meth c Z as σ hsp F hr hlk
  exact o_N_isIn_0 F hr hlk

theorem d_N_readsLots_0 : decode prog_13_method_11_code 0 = .ok (.iconst 0, 1) := by decide +kernel
theorem d_N_readsLots_1 : decode prog_13_method_11_code 1 = .ok (.istore_n 1, 1) := by decide +kernel
theorem d_N_readsLots_2 : decode prog_13_method_11_code 2 = .ok (.iconst 0, 1) := by decide +kernel
theorem d_N_readsLots_3 : decode prog_13_method_11_code 3 = .ok (.istore_n 2, 1) := by decide +kernel
theorem d_N_readsLots_4 : decode prog_13_method_11_code 4 = .ok (.iload_n 2, 1) := by decide +kernel
theorem d_N_readsLots_5 : decode prog_13_method_11_code 5 = .ok (.aload_n 0, 1) := by decide +kernel
theorem d_N_readsLots_6 : decode prog_13_method_11_code 6 = .ok (.getfield 7, 3) := by decide +kernel
theorem d_N_readsLots_9 : decode prog_13_method_11_code 9 = .ok (.iconst 1, 1) := by decide +kernel
theorem d_N_readsLots_10 : decode prog_13_method_11_code 10 = .ok (.iaload, 1) := by decide +kernel
theorem d_N_readsLots_11 : decode prog_13_method_11_code 11 = .ok (.if_icmp .ge 53, 3) := by decide +kernel
theorem d_N_readsLots_14 : decode prog_13_method_11_code 14 = .ok (.aload_n 0, 1) := by decide +kernel
theorem d_N_readsLots_15 : decode prog_13_method_11_code 15 = .ok (.iconst 1, 1) := by decide +kernel
theorem d_N_readsLots_16 : decode prog_13_method_11_code 16 = .ok (.iload_n 2, 1) := by decide +kernel
theorem d_N_readsLots_17 : decode prog_13_method_11_code 17 = .ok (.invokevirtual 113, 3) := by decide +kernel
theorem d_N_readsLots_20 : decode prog_13_method_11_code 20 = .ok (.istore_n 3, 1) := by decide +kernel
theorem d_N_readsLots_21 : decode prog_13_method_11_code 21 = .ok (.iload_n 3, 1) := by decide +kernel
theorem d_N_readsLots_22 : decode prog_13_method_11_code 22 = .ok (.iconst 0, 1) := by decide +kernel
theorem d_N_readsLots_23 : decode prog_13_method_11_code 23 = .ok (.aload_n 0, 1) := by decide +kernel
theorem d_N_readsLots_24 : decode prog_13_method_11_code 24 = .ok (.getfield 109, 3) := by decide +kernel
theorem d_N_readsLots_27 : decode prog_13_method_11_code 27 = .ok (.iconst 1, 1) := by decide +kernel
theorem d_N_readsLots_28 : decode prog_13_method_11_code 28 = .ok (.isub, 1) := by decide +kernel
theorem d_N_readsLots_29 : decode prog_13_method_11_code 29 = .ok (.invokestatic 101, 3) := by decide +kernel
theorem d_N_readsLots_32 : decode prog_13_method_11_code 32 = .ok (.ifCond .eq 11, 3) := by decide +kernel
theorem d_N_readsLots_35 : decode prog_13_method_11_code 35 = .ok (.iload_n 1, 1) := by decide +kernel
theorem d_N_readsLots_36 : decode prog_13_method_11_code 36 = .ok (.iload_n 3, 1) := by decide +kernel
theorem d_N_readsLots_37 : decode prog_13_method_11_code 37 = .ok (.invokestatic 116, 3) := by decide +kernel
theorem d_N_readsLots_40 : decode prog_13_method_11_code 40 = .ok (.ifCond .eq 5, 3) := by decide +kernel
theorem d_N_readsLots_43 : decode prog_13_method_11_code 43 = .ok (.iload_n 2, 1) := by decide +kernel
theorem d_N_readsLots_44 : decode prog_13_method_11_code 44 = .ok (.ireturn, 1) := by decide +kernel
theorem d_N_readsLots_45 : decode prog_13_method_11_code 45 = .ok (.aload_n 0, 1) := by decide +kernel
theorem d_N_readsLots_46 : decode prog_13_method_11_code 46 = .ok (.getfield 25, 3) := by decide +kernel
theorem d_N_readsLots_49 : decode prog_13_method_11_code 49 = .ok (.iload_n 2, 1) := by decide +kernel
theorem d_N_readsLots_50 : decode prog_13_method_11_code 50 = .ok (.iload_n 3, 1) := by decide +kernel
theorem d_N_readsLots_51 : decode prog_13_method_11_code 51 = .ok (.iastore, 1) := by decide +kernel
theorem d_N_readsLots_52 : decode prog_13_method_11_code 52 = .ok (.iload_n 1, 1) := by decide +kernel
theorem d_N_readsLots_53 : decode prog_13_method_11_code 53 = .ok (.iconst 1, 1) := by decide +kernel
theorem d_N_readsLots_54 : decode prog_13_method_11_code 54 = .ok (.iload_n 3, 1) := by decide +kernel
theorem d_N_readsLots_55 : decode prog_13_method_11_code 55 = .ok (.ishl, 1) := by decide +kernel
theorem d_N_readsLots_56 : decode prog_13_method_11_code 56 = .ok (.ior, 1) := by decide +kernel
theorem d_N_readsLots_57 : decode prog_13_method_11_code 57 = .ok (.istore_n 1, 1) := by decide +kernel
theorem d_N_readsLots_58 : decode prog_13_method_11_code 58 = .ok (.iinc 2 1, 3) := by decide +kernel
theorem d_N_readsLots_61 : decode prog_13_method_11_code 61 = .ok (.goto (-57), 3) := by decide +kernel
theorem d_N_readsLots_64 : decode prog_13_method_11_code 64 = .ok (.aload_n 0, 1) := by decide +kernel
theorem d_N_readsLots_65 : decode prog_13_method_11_code 65 = .ok (.getfield 7, 3) := by decide +kernel
theorem d_N_readsLots_68 : decode prog_13_method_11_code 68 = .ok (.iconst 1, 1) := by decide +kernel
theorem d_N_readsLots_69 : decode prog_13_method_11_code 69 = .ok (.iaload, 1) := by decide +kernel
theorem d_N_readsLots_70 : decode prog_13_method_11_code 70 = .ok (.aload_n 0, 1) := by decide +kernel
theorem d_N_readsLots_71 : decode prog_13_method_11_code 71 = .ok (.getfield 109, 3) := by decide +kernel
theorem d_N_readsLots_74 : decode prog_13_method_11_code 74 = .ok (.if_icmp .ge 12, 3) := by decide +kernel
theorem d_N_readsLots_77 : decode prog_13_method_11_code 77 = .ok (.aload_n 0, 1) := by decide +kernel
theorem d_N_readsLots_78 : decode prog_13_method_11_code 78 = .ok (.getfield 7, 3) := by decide +kernel
theorem d_N_readsLots_81 : decode prog_13_method_11_code 81 = .ok (.iconst 1, 1) := by decide +kernel
theorem d_N_readsLots_82 : decode prog_13_method_11_code 82 = .ok (.iaload, 1) := by decide +kernel
theorem d_N_readsLots_83 : decode prog_13_method_11_code 83 = .ok (.goto 4, 3) := by decide +kernel
theorem d_N_readsLots_86 : decode prog_13_method_11_code 86 = .ok (.iconst (-1), 1) := by decide +kernel
theorem d_N_readsLots_87 : decode prog_13_method_11_code 87 = .ok (.ireturn, 1) := by decide +kernel
def b_N_readsLots_87 (c0 c1 c2 : ra_Sp) (I : Nat → ra_K) (Z : ra_R) : ra_K := w_ir Z
def b_N_readsLots_86 (c0 c1 c2 : ra_Sp) (I : Nat → ra_K) (Z : ra_R) : ra_K := w_c (-1) <| (b_N_readsLots_87 c0 c1 c2 I Z)
def b_N_readsLots_77 (c0 c1 c2 : ra_Sp) (I : Nat → ra_K) (Z : ra_R) : ra_K := w_al 0 <| w_gr 11 0 <| w_c 1 <| w_ald <| (b_N_readsLots_87 c0 c1 c2 I Z)
def b_N_readsLots_64 (c0 c1 c2 : ra_Sp) (I : Nat → ra_K) (Z : ra_R) : ra_K := w_al 0 <| w_gr 11 0 <| w_c 1 <| w_ald <| w_al 0 <| w_gi 11 2 <| w_b2 (fun x y => y ≤ x) (b_N_readsLots_86 c0 c1 c2 I Z) (b_N_readsLots_77 c0 c1 c2 I Z)
def b_N_readsLots_45 (c0 c1 c2 : ra_Sp) (I : Nat → ra_K) (Z : ra_R) : ra_K := w_al 0 <| w_gr 11 6 <| w_il 2 <| w_il 3 <| w_ast <| w_il 1 <| w_c 1 <| w_il 3 <| w_i2 (fun x y => x <<< (y &&& 31)) <| w_i2 (fun x y => x ||| y) <| w_is 1 <| w_inc 2 1 <| (I 4)
def b_N_readsLots_43 (c0 c1 c2 : ra_Sp) (I : Nat → ra_K) (Z : ra_R) : ra_K := w_il 2 <| w_ir Z
def b_N_readsLots_35 (c0 c1 c2 : ra_Sp) (I : Nat → ra_K) (Z : ra_R) : ra_K := w_il 1 <| w_il 3 <| w_cs c2 2 <| w_b1 (fun x => x = 0) (b_N_readsLots_45 c0 c1 c2 I Z) (b_N_readsLots_43 c0 c1 c2 I Z)
def b_N_readsLots_14 (c0 c1 c2 : ra_Sp) (I : Nat → ra_K) (Z : ra_R) : ra_K := w_al 0 <| w_c 1 <| w_il 2 <| w_cv c0 3 11 <| w_is 3 <| w_il 3 <| w_c 0 <| w_al 0 <| w_gi 11 2 <| w_c 1 <| w_i2 (fun x y => x - y) <| w_cs c1 3 <| w_b1 (fun x => x = 0) (b_N_readsLots_43 c0 c1 c2 I Z) (b_N_readsLots_35 c0 c1 c2 I Z)
def b_N_readsLots_4 (c0 c1 c2 : ra_Sp) (I : Nat → ra_K) (Z : ra_R) : ra_K := w_il 2 <| w_al 0 <| w_gr 11 0 <| w_c 1 <| w_ald <| w_b2 (fun x y => y ≤ x) (b_N_readsLots_64 c0 c1 c2 I Z) (b_N_readsLots_14 c0 c1 c2 I Z)
def b_N_readsLots_0 (c0 c1 c2 : ra_Sp) (I : Nat → ra_K) (Z : ra_R) : ra_K := w_c 0 <| w_is 1 <| w_c 0 <| w_is 2 <| (I 4)
theorem o_N_readsLots_87 {X : ra_X} {p : Program} {l : Launch} {e : Env} {s : State} {m : MethodId} {args : Array Value} {below : List Frame} {meth : Method} {c : Code} {Z : ra_R} {c0 c1 c2 : ra_Sp}  (h0 : ra_MOK l X mi_N_figureAt c0) (h1 : ra_MOK l X mi_N_in c1) (h2 : ra_MOK l X mi_N_isIn c2) (F : ra_Fx X p rm_N_readsLots s m args c prog_13_method_11_code 4 cn_N) (hr : meth.sig.returnType = (some .int)) (hlk : meth.locks = false) {I : Nat → ra_K} (hI : ∀ t ∈ [4], ra_At X p l e rm_N_readsLots s m args below meth c 4 (MQ below (ra_Qc X Z) args s 0 0 (ra_A X)) (I t) t) : ra_At X p l e rm_N_readsLots s m args below meth c 4 (MQ below (ra_Qc X Z) args s 0 0 (ra_A X)) (b_N_readsLots_87 c0 c1 c2 I Z) 87 :=
  r_ireturn F hr hlk d_N_readsLots_87
theorem o_N_readsLots_86 {X : ra_X} {p : Program} {l : Launch} {e : Env} {s : State} {m : MethodId} {args : Array Value} {below : List Frame} {meth : Method} {c : Code} {Z : ra_R} {c0 c1 c2 : ra_Sp}  (h0 : ra_MOK l X mi_N_figureAt c0) (h1 : ra_MOK l X mi_N_in c1) (h2 : ra_MOK l X mi_N_isIn c2) (F : ra_Fx X p rm_N_readsLots s m args c prog_13_method_11_code 4 cn_N) (hr : meth.sig.returnType = (some .int)) (hlk : meth.locks = false) {I : Nat → ra_K} (hI : ∀ t ∈ [4], ra_At X p l e rm_N_readsLots s m args below meth c 4 (MQ below (ra_Qc X Z) args s 0 0 (ra_A X)) (I t) t) : ra_At X p l e rm_N_readsLots s m args below meth c 4 (MQ below (ra_Qc X Z) args s 0 0 (ra_A X)) (b_N_readsLots_86 c0 c1 c2 I Z) 86 :=
  r_iconst F d_N_readsLots_86 (by decide) <| (o_N_readsLots_87 h0 h1 h2 F hr hlk hI)
theorem o_N_readsLots_77 {X : ra_X} {p : Program} {l : Launch} {e : Env} {s : State} {m : MethodId} {args : Array Value} {below : List Frame} {meth : Method} {c : Code} {Z : ra_R} {c0 c1 c2 : ra_Sp}  (h0 : ra_MOK l X mi_N_figureAt c0) (h1 : ra_MOK l X mi_N_in c1) (h2 : ra_MOK l X mi_N_isIn c2) (F : ra_Fx X p rm_N_readsLots s m args c prog_13_method_11_code 4 cn_N) (hr : meth.sig.returnType = (some .int)) (hlk : meth.locks = false) {I : Nat → ra_K} (hI : ∀ t ∈ [4], ra_At X p l e rm_N_readsLots s m args below meth c 4 (MQ below (ra_Qc X Z) args s 0 0 (ra_A X)) (I t) t) : ra_At X p l e rm_N_readsLots s m args below meth c 4 (MQ below (ra_Qc X Z) args s 0 0 (ra_A X)) (b_N_readsLots_77 c0 c1 c2 I Z) 77 :=
  r_aload_n F d_N_readsLots_77 rfl <| r_getR F cg_N (j := 0) (by decide) rfl fl_N_7 d_N_readsLots_78 <| r_iconst F d_N_readsLots_81 (by decide) <| r_iaload F d_N_readsLots_82 <| r_goto F d_N_readsLots_83 (by decide) (o_N_readsLots_87 h0 h1 h2 F hr hlk hI)
theorem o_N_readsLots_64 {X : ra_X} {p : Program} {l : Launch} {e : Env} {s : State} {m : MethodId} {args : Array Value} {below : List Frame} {meth : Method} {c : Code} {Z : ra_R} {c0 c1 c2 : ra_Sp}  (h0 : ra_MOK l X mi_N_figureAt c0) (h1 : ra_MOK l X mi_N_in c1) (h2 : ra_MOK l X mi_N_isIn c2) (F : ra_Fx X p rm_N_readsLots s m args c prog_13_method_11_code 4 cn_N) (hr : meth.sig.returnType = (some .int)) (hlk : meth.locks = false) {I : Nat → ra_K} (hI : ∀ t ∈ [4], ra_At X p l e rm_N_readsLots s m args below meth c 4 (MQ below (ra_Qc X Z) args s 0 0 (ra_A X)) (I t) t) : ra_At X p l e rm_N_readsLots s m args below meth c 4 (MQ below (ra_Qc X Z) args s 0 0 (ra_A X)) (b_N_readsLots_64 c0 c1 c2 I Z) 64 :=
  r_aload_n F d_N_readsLots_64 rfl <| r_getR F cg_N (j := 0) (by decide) rfl fl_N_7 d_N_readsLots_65 <| r_iconst F d_N_readsLots_68 (by decide) <| r_iaload F d_N_readsLots_69 <| r_aload_n F d_N_readsLots_70 rfl <| r_getI F cg_N (j := 2) (by decide) rfl fl_N_109 d_N_readsLots_71 <| r_icmp_ge F d_N_readsLots_74 (by decide) (o_N_readsLots_86 h0 h1 h2 F hr hlk hI) (o_N_readsLots_77 h0 h1 h2 F hr hlk hI)
theorem o_N_readsLots_45 {X : ra_X} {p : Program} {l : Launch} {e : Env} {s : State} {m : MethodId} {args : Array Value} {below : List Frame} {meth : Method} {c : Code} {Z : ra_R} {c0 c1 c2 : ra_Sp}  (h0 : ra_MOK l X mi_N_figureAt c0) (h1 : ra_MOK l X mi_N_in c1) (h2 : ra_MOK l X mi_N_isIn c2) (F : ra_Fx X p rm_N_readsLots s m args c prog_13_method_11_code 4 cn_N) (hr : meth.sig.returnType = (some .int)) (hlk : meth.locks = false) {I : Nat → ra_K} (hI : ∀ t ∈ [4], ra_At X p l e rm_N_readsLots s m args below meth c 4 (MQ below (ra_Qc X Z) args s 0 0 (ra_A X)) (I t) t) : ra_At X p l e rm_N_readsLots s m args below meth c 4 (MQ below (ra_Qc X Z) args s 0 0 (ra_A X)) (b_N_readsLots_45 c0 c1 c2 I Z) 45 :=
  r_aload_n F d_N_readsLots_45 rfl <| r_getR F cg_N (j := 6) (by decide) rfl fl_N_25 d_N_readsLots_46 <| r_iload_n F d_N_readsLots_49 rfl <| r_iload_n F d_N_readsLots_50 rfl <| r_iastore F d_N_readsLots_51 <| r_iload_n F d_N_readsLots_52 rfl <| r_iconst F d_N_readsLots_53 (by decide) <| r_iload_n F d_N_readsLots_54 rfl <| r_ishl F d_N_readsLots_55 <| r_ior F d_N_readsLots_56 <| r_istore_n F d_N_readsLots_57 rfl (by decide) <| r_iinc F d_N_readsLots_58 (by decide) (by decide) <| r_goto F d_N_readsLots_61 (by decide) (hI 4 (by decide))
theorem o_N_readsLots_43 {X : ra_X} {p : Program} {l : Launch} {e : Env} {s : State} {m : MethodId} {args : Array Value} {below : List Frame} {meth : Method} {c : Code} {Z : ra_R} {c0 c1 c2 : ra_Sp}  (h0 : ra_MOK l X mi_N_figureAt c0) (h1 : ra_MOK l X mi_N_in c1) (h2 : ra_MOK l X mi_N_isIn c2) (F : ra_Fx X p rm_N_readsLots s m args c prog_13_method_11_code 4 cn_N) (hr : meth.sig.returnType = (some .int)) (hlk : meth.locks = false) {I : Nat → ra_K} (hI : ∀ t ∈ [4], ra_At X p l e rm_N_readsLots s m args below meth c 4 (MQ below (ra_Qc X Z) args s 0 0 (ra_A X)) (I t) t) : ra_At X p l e rm_N_readsLots s m args below meth c 4 (MQ below (ra_Qc X Z) args s 0 0 (ra_A X)) (b_N_readsLots_43 c0 c1 c2 I Z) 43 :=
  r_iload_n F d_N_readsLots_43 rfl <| r_ireturn F hr hlk d_N_readsLots_44
theorem o_N_readsLots_35 {X : ra_X} {p : Program} {l : Launch} {e : Env} {s : State} {m : MethodId} {args : Array Value} {below : List Frame} {meth : Method} {c : Code} {Z : ra_R} {c0 c1 c2 : ra_Sp}  (h0 : ra_MOK l X mi_N_figureAt c0) (h1 : ra_MOK l X mi_N_in c1) (h2 : ra_MOK l X mi_N_isIn c2) (F : ra_Fx X p rm_N_readsLots s m args c prog_13_method_11_code 4 cn_N) (hr : meth.sig.returnType = (some .int)) (hlk : meth.locks = false) {I : Nat → ra_K} (hI : ∀ t ∈ [4], ra_At X p l e rm_N_readsLots s m args below meth c 4 (MQ below (ra_Qc X Z) args s 0 0 (ra_A X)) (I t) t) : ra_At X p l e rm_N_readsLots s m args below meth c 4 (MQ below (ra_Qc X Z) args s 0 0 (ra_A X)) (b_N_readsLots_35 c0 c1 c2 I Z) 35 :=
  r_iload_n F d_N_readsLots_35 rfl <| r_iload_n F d_N_readsLots_36 rfl <| r_callS F h2 (co_N_isIn (by decide +kernel) (by decide +kernel)) ⟨rfl, by decide +kernel⟩ ml_N_116 st_N_isIn d_N_readsLots_37 <| r_if_eq F d_N_readsLots_40 (by decide) (o_N_readsLots_45 h0 h1 h2 F hr hlk hI) (o_N_readsLots_43 h0 h1 h2 F hr hlk hI)
theorem o_N_readsLots_14 {X : ra_X} {p : Program} {l : Launch} {e : Env} {s : State} {m : MethodId} {args : Array Value} {below : List Frame} {meth : Method} {c : Code} {Z : ra_R} {c0 c1 c2 : ra_Sp}  (h0 : ra_MOK l X mi_N_figureAt c0) (h1 : ra_MOK l X mi_N_in c1) (h2 : ra_MOK l X mi_N_isIn c2) (F : ra_Fx X p rm_N_readsLots s m args c prog_13_method_11_code 4 cn_N) (hr : meth.sig.returnType = (some .int)) (hlk : meth.locks = false) {I : Nat → ra_K} (hI : ∀ t ∈ [4], ra_At X p l e rm_N_readsLots s m args below meth c 4 (MQ below (ra_Qc X Z) args s 0 0 (ra_A X)) (I t) t) : ra_At X p l e rm_N_readsLots s m args below meth c 4 (MQ below (ra_Qc X Z) args s 0 0 (ra_A X)) (b_N_readsLots_14 c0 c1 c2 I Z) 14 :=
  r_aload_n F d_N_readsLots_14 rfl <| r_iconst F d_N_readsLots_15 (by decide) <| r_iload_n F d_N_readsLots_16 rfl <| r_callV F h0 (co_N_figureAt (by decide +kernel) (by decide +kernel)) ⟨rfl, by decide +kernel⟩ ⟨rfl, by decide⟩ ml_N_113 im_N_figureAt se_N_figureAt d_N_readsLots_17 <| r_istore_n F d_N_readsLots_20 rfl (by decide) <| r_iload_n F d_N_readsLots_21 rfl <| r_iconst F d_N_readsLots_22 (by decide) <| r_aload_n F d_N_readsLots_23 rfl <| r_getI F cg_N (j := 2) (by decide) rfl fl_N_109 d_N_readsLots_24 <| r_iconst F d_N_readsLots_27 (by decide) <| r_isub F d_N_readsLots_28 <| r_callS F h1 (co_N_in (by decide +kernel) (by decide +kernel)) ⟨rfl, by decide +kernel⟩ ml_N_101 st_N_in d_N_readsLots_29 <| r_if_eq F d_N_readsLots_32 (by decide) (o_N_readsLots_43 h0 h1 h2 F hr hlk hI) (o_N_readsLots_35 h0 h1 h2 F hr hlk hI)
theorem o_N_readsLots_4 {X : ra_X} {p : Program} {l : Launch} {e : Env} {s : State} {m : MethodId} {args : Array Value} {below : List Frame} {meth : Method} {c : Code} {Z : ra_R} {c0 c1 c2 : ra_Sp}  (h0 : ra_MOK l X mi_N_figureAt c0) (h1 : ra_MOK l X mi_N_in c1) (h2 : ra_MOK l X mi_N_isIn c2) (F : ra_Fx X p rm_N_readsLots s m args c prog_13_method_11_code 4 cn_N) (hr : meth.sig.returnType = (some .int)) (hlk : meth.locks = false) {I : Nat → ra_K} (hI : ∀ t ∈ [4], ra_At X p l e rm_N_readsLots s m args below meth c 4 (MQ below (ra_Qc X Z) args s 0 0 (ra_A X)) (I t) t) : ra_At X p l e rm_N_readsLots s m args below meth c 4 (MQ below (ra_Qc X Z) args s 0 0 (ra_A X)) (b_N_readsLots_4 c0 c1 c2 I Z) 4 :=
  r_iload_n F d_N_readsLots_4 rfl <| r_aload_n F d_N_readsLots_5 rfl <| r_getR F cg_N (j := 0) (by decide) rfl fl_N_7 d_N_readsLots_6 <| r_iconst F d_N_readsLots_9 (by decide) <| r_iaload F d_N_readsLots_10 <| r_icmp_ge F d_N_readsLots_11 (by decide) (o_N_readsLots_64 h0 h1 h2 F hr hlk hI) (o_N_readsLots_14 h0 h1 h2 F hr hlk hI)
theorem o_N_readsLots_0 {X : ra_X} {p : Program} {l : Launch} {e : Env} {s : State} {m : MethodId} {args : Array Value} {below : List Frame} {meth : Method} {c : Code} {Z : ra_R} {c0 c1 c2 : ra_Sp}  (h0 : ra_MOK l X mi_N_figureAt c0) (h1 : ra_MOK l X mi_N_in c1) (h2 : ra_MOK l X mi_N_isIn c2) (F : ra_Fx X p rm_N_readsLots s m args c prog_13_method_11_code 4 cn_N) (hr : meth.sig.returnType = (some .int)) (hlk : meth.locks = false) {I : Nat → ra_K} (hI : ∀ t ∈ [4], ra_At X p l e rm_N_readsLots s m args below meth c 4 (MQ below (ra_Qc X Z) args s 0 0 (ra_A X)) (I t) t) : ra_At X p l e rm_N_readsLots s m args below meth c 4 (MQ below (ra_Qc X Z) args s 0 0 (ra_A X)) (b_N_readsLots_0 c0 c1 c2 I Z) 0 :=
  r_iconst F d_N_readsLots_0 (by decide) <| r_istore_n F d_N_readsLots_1 rfl (by decide) <| r_iconst F d_N_readsLots_2 (by decide) <| r_istore_n F d_N_readsLots_3 rfl (by decide) <| (hI 4 (by decide))
theorem g_N_readsLots {l : Launch} {X : ra_X} {c0 c1 c2 : ra_Sp}  (h0 : ra_MOK l X mi_N_figureAt c0) (h1 : ra_MOK l X mi_N_in c1) (h2 : ra_MOK l X mi_N_isIn c2) (sp : ra_Sp) (I : ra_R → List Value → ra_St → Nat → ra_M → ra_K) (ve : ∀ as σ Z, ra_c1 as = true → as.length = 1 → sp as σ Z → b_N_readsLots_0 c0 c1 c2 (ra_I (I Z as σ)) Z (ra_pad 4 as) [] σ) (v4 : ∀ as σ Z, sp as σ Z → ∀ μ L S σ1, I Z as σ 4 μ L S σ1 → b_N_readsLots_4 c0 c1 c2 (ra_J (I Z as σ) μ) Z L S σ1) : ra_MOK l X mi_N_readsLots sp := by
  refine ra_enter (k := fun Z as σ => b_N_readsLots_0 c0 c1 c2 (ra_I (I Z as σ)) Z) cn_N rfl (by decide +kernel) ⟨by decide +kernel, by decide +kernel⟩ (by decide +kernel) ?_ ve
  intro p e s m args below meth c Z as σ hsp F hr hlk
  refine o_N_readsLots_0 h0 h1 h2 F hr hlk (ra_cuts (b := fun t J => if t = 4 then b_N_readsLots_4 c0 c1 c2 J Z else fun _ _ _ => False) ?_ ?_)
  · intro t ht J hJ
    simp only [List.mem_cons, List.not_mem_nil, or_false] at ht
    rcases ht with rfl
    · exact o_N_readsLots_4 h0 h1 h2 F hr hlk hJ
  · intro t ht μ L S σ1 hI
    simp only [List.mem_cons, List.not_mem_nil, or_false] at ht
    rcases ht with rfl
    · exact v4 as σ Z hsp μ L S σ1 hI
