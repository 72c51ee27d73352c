theorem d_R_isOutside_0 : decode prog_1_method_42_code 0 = .ok (.iload_n 0, 1) := by decide +kernel
theorem d_R_isOutside_1 : decode prog_1_method_42_code 1 = .ok (.iload_n 1, 1) := by decide +kernel
theorem d_R_isOutside_2 : decode prog_1_method_42_code 2 = .ok (.if_icmp .lt 8, 3) := by decide +kernel
theorem d_R_isOutside_5 : decode prog_1_method_42_code 5 = .ok (.iload_n 0, 1) := by decide +kernel
theorem d_R_isOutside_6 : decode prog_1_method_42_code 6 = .ok (.iload_n 2, 1) := by decide +kernel
theorem d_R_isOutside_7 : decode prog_1_method_42_code 7 = .ok (.if_icmp .le 7, 3) := by decide +kernel
theorem d_R_isOutside_10 : decode prog_1_method_42_code 10 = .ok (.iconst 1, 1) := by decide +kernel
theorem d_R_isOutside_11 : decode prog_1_method_42_code 11 = .ok (.goto 4, 3) := by decide +kernel
theorem d_R_isOutside_14 : decode prog_1_method_42_code 14 = .ok (.iconst 0, 1) := by decide +kernel
theorem d_R_isOutside_15 : decode prog_1_method_42_code 15 = .ok (.ireturn, 1) := by decide +kernel
def b_R_isOutside_15 (Z : ra_R) : ra_K := w_zr Z
def b_R_isOutside_14 (Z : ra_R) : ra_K := w_c 0 <| (b_R_isOutside_15 Z)
def b_R_isOutside_10 (Z : ra_R) : ra_K := w_c 1 <| (b_R_isOutside_15 Z)
def b_R_isOutside_5 (Z : ra_R) : ra_K := w_il 0 <| w_il 2 <| w_b2 (fun x y => x ≤ y) (b_R_isOutside_14 Z) (b_R_isOutside_10 Z)
def b_R_isOutside_0 (Z : ra_R) : ra_K := w_il 0 <| w_il 1 <| w_b2 (fun x y => x < y) (b_R_isOutside_10 Z) (b_R_isOutside_5 Z)
theorem o_R_isOutside_15 {X : ra_X} {p : Program} {l : Launch} {e : Env} {s : State} {m : MethodId} {args : Array Value} {below : List Frame} {meth : Method} {c : Code} {Z : ra_R}  (F : ra_Fx X p rm_R_isOutside s m args c prog_1_method_42_code 3 cn_R) (hr : meth.sig.returnType = (some .boolean)) (hlk : meth.locks = false) : ra_At X p l e rm_R_isOutside s m args below meth c 3 (MQ below (ra_Qc X Z) args s 0 0 (ra_A X)) (b_R_isOutside_15 Z) 15 :=
  r_zreturn F hr hlk d_R_isOutside_15
theorem o_R_isOutside_14 {X : ra_X} {p : Program} {l : Launch} {e : Env} {s : State} {m : MethodId} {args : Array Value} {below : List Frame} {meth : Method} {c : Code} {Z : ra_R}  (F : ra_Fx X p rm_R_isOutside s m args c prog_1_method_42_code 3 cn_R) (hr : meth.sig.returnType = (some .boolean)) (hlk : meth.locks = false) : ra_At X p l e rm_R_isOutside s m args below meth c 3 (MQ below (ra_Qc X Z) args s 0 0 (ra_A X)) (b_R_isOutside_14 Z) 14 :=
  r_iconst F d_R_isOutside_14 (by decide) <| (o_R_isOutside_15 F hr hlk)
theorem o_R_isOutside_10 {X : ra_X} {p : Program} {l : Launch} {e : Env} {s : State} {m : MethodId} {args : Array Value} {below : List Frame} {meth : Method} {c : Code} {Z : ra_R}  (F : ra_Fx X p rm_R_isOutside s m args c prog_1_method_42_code 3 cn_R) (hr : meth.sig.returnType = (some .boolean)) (hlk : meth.locks = false) : ra_At X p l e rm_R_isOutside s m args below meth c 3 (MQ below (ra_Qc X Z) args s 0 0 (ra_A X)) (b_R_isOutside_10 Z) 10 :=
  r_iconst F d_R_isOutside_10 (by decide) <| r_goto F d_R_isOutside_11 (by decide) (o_R_isOutside_15 F hr hlk)
theorem o_R_isOutside_5 {X : ra_X} {p : Program} {l : Launch} {e : Env} {s : State} {m : MethodId} {args : Array Value} {below : List Frame} {meth : Method} {c : Code} {Z : ra_R}  (F : ra_Fx X p rm_R_isOutside s m args c prog_1_method_42_code 3 cn_R) (hr : meth.sig.returnType = (some .boolean)) (hlk : meth.locks = false) : ra_At X p l e rm_R_isOutside s m args below meth c 3 (MQ below (ra_Qc X Z) args s 0 0 (ra_A X)) (b_R_isOutside_5 Z) 5 :=
  r_iload_n F d_R_isOutside_5 rfl <| r_iload_n F d_R_isOutside_6 rfl <| r_icmp_le F d_R_isOutside_7 (by decide) (o_R_isOutside_14 F hr hlk) (o_R_isOutside_10 F hr hlk)
theorem o_R_isOutside_0 {X : ra_X} {p : Program} {l : Launch} {e : Env} {s : State} {m : MethodId} {args : Array Value} {below : List Frame} {meth : Method} {c : Code} {Z : ra_R}  (F : ra_Fx X p rm_R_isOutside s m args c prog_1_method_42_code 3 cn_R) (hr : meth.sig.returnType = (some .boolean)) (hlk : meth.locks = false) : ra_At X p l e rm_R_isOutside s m args below meth c 3 (MQ below (ra_Qc X Z) args s 0 0 (ra_A X)) (b_R_isOutside_0 Z) 0 :=
  r_iload_n F d_R_isOutside_0 rfl <| r_iload_n F d_R_isOutside_1 rfl <| r_icmp_lt F d_R_isOutside_2 (by decide) (o_R_isOutside_10 F hr hlk) (o_R_isOutside_5 F hr hlk)
theorem g_R_isOutside {l : Launch} {X : ra_X}  (sp : ra_Sp) (ve : ∀ as σ Z, ra_c1 as = true → as.length = 3 → sp as σ Z → b_R_isOutside_0 Z (ra_pad 3 as) [] σ) : ra_MOK l X mi_R_isOutside sp := by
  refine ra_enter (k := fun Z as σ => b_R_isOutside_0 Z) cn_R rfl (by decide +kernel) ⟨by decide +kernel, by decide +kernel⟩ (by decide +kernel) ?_ ve
  intro p e s m args below meth c Z as σ hsp F hr hlk
  exact o_R_isOutside_0 F hr hlk

theorem d_V_textOf_0 : decode prog_10_method_2_code 0 = .ok (.iload_n 1, 1) := by decide +kernel
theorem d_V_textOf_1 : decode prog_10_method_2_code 1 = .ok (.ifCond .ne 10, 3) := by decide +kernel
theorem d_V_textOf_4 : decode prog_10_method_2_code 4 = .ok (.aload_n 0, 1) := by decide +kernel
theorem d_V_textOf_5 : decode prog_10_method_2_code 5 = .ok (.getfield 14, 3) := by decide +kernel
theorem d_V_textOf_8 : decode prog_10_method_2_code 8 = .ok (.goto 7, 3) := by decide +kernel
theorem d_V_textOf_11 : decode prog_10_method_2_code 11 = .ok (.aload_n 0, 1) := by decide +kernel
theorem d_V_textOf_12 : decode prog_10_method_2_code 12 = .ok (.getfield 20, 3) := by decide +kernel
theorem d_V_textOf_15 : decode prog_10_method_2_code 15 = .ok (.areturn, 1) := by decide +kernel
def b_V_textOf_15 (Z : ra_R) : ra_K := w_ar Z
def b_V_textOf_11 (Z : ra_R) : ra_K := w_al 0 <| w_gr 1 1 <| (b_V_textOf_15 Z)
def b_V_textOf_4 (Z : ra_R) : ra_K := w_al 0 <| w_gr 1 0 <| (b_V_textOf_15 Z)
def b_V_textOf_0 (Z : ra_R) : ra_K := w_il 1 <| w_b1 (fun x => x = 0) (b_V_textOf_4 Z) (b_V_textOf_11 Z)
theorem o_V_textOf_15 {X : ra_X} {p : Program} {l : Launch} {e : Env} {s : State} {m : MethodId} {args : Array Value} {below : List Frame} {meth : Method} {c : Code} {Z : ra_R}  (F : ra_Fx X p rm_V_textOf s m args c prog_10_method_2_code 2 cn_V) (hr : meth.sig.returnType = (some (.object "RoofAcross$Text"))) (hlk : meth.locks = false) : ra_At X p l e rm_V_textOf s m args below meth c 2 (MQ below (ra_Qc X Z) args s 0 0 (ra_A X)) (b_V_textOf_15 Z) 15 :=
  r_areturn F hr (Or.inl ⟨_, rfl⟩) hlk d_V_textOf_15
theorem o_V_textOf_11 {X : ra_X} {p : Program} {l : Launch} {e : Env} {s : State} {m : MethodId} {args : Array Value} {below : List Frame} {meth : Method} {c : Code} {Z : ra_R}  (F : ra_Fx X p rm_V_textOf s m args c prog_10_method_2_code 2 cn_V) (hr : meth.sig.returnType = (some (.object "RoofAcross$Text"))) (hlk : meth.locks = false) : ra_At X p l e rm_V_textOf s m args below meth c 2 (MQ below (ra_Qc X Z) args s 0 0 (ra_A X)) (b_V_textOf_11 Z) 11 :=
  r_aload_n F d_V_textOf_11 rfl <| r_getR F cg_V (j := 1) (by decide) rfl fl_V_20 d_V_textOf_12 <| (o_V_textOf_15 F hr hlk)
theorem o_V_textOf_4 {X : ra_X} {p : Program} {l : Launch} {e : Env} {s : State} {m : MethodId} {args : Array Value} {below : List Frame} {meth : Method} {c : Code} {Z : ra_R}  (F : ra_Fx X p rm_V_textOf s m args c prog_10_method_2_code 2 cn_V) (hr : meth.sig.returnType = (some (.object "RoofAcross$Text"))) (hlk : meth.locks = false) : ra_At X p l e rm_V_textOf s m args below meth c 2 (MQ below (ra_Qc X Z) args s 0 0 (ra_A X)) (b_V_textOf_4 Z) 4 :=
  r_aload_n F d_V_textOf_4 rfl <| r_getR F cg_V (j := 0) (by decide) rfl fl_V_14 d_V_textOf_5 <| r_goto F d_V_textOf_8 (by decide) (o_V_textOf_15 F hr hlk)
theorem o_V_textOf_0 {X : ra_X} {p : Program} {l : Launch} {e : Env} {s : State} {m : MethodId} {args : Array Value} {below : List Frame} {meth : Method} {c : Code} {Z : ra_R}  (F : ra_Fx X p rm_V_textOf s m args c prog_10_method_2_code 2 cn_V) (hr : meth.sig.returnType = (some (.object "RoofAcross$Text"))) (hlk : meth.locks = false) : ra_At X p l e rm_V_textOf s m args below meth c 2 (MQ below (ra_Qc X Z) args s 0 0 (ra_A X)) (b_V_textOf_0 Z) 0 :=
  r_iload_n F d_V_textOf_0 rfl <| r_if_ne F d_V_textOf_1 (by decide) (o_V_textOf_11 F hr hlk) (o_V_textOf_4 F hr hlk)
theorem g_V_textOf {l : Launch} {X : ra_X}  (sp : ra_Sp) (ve : ∀ as σ Z, ra_c1 as = true → as.length = 2 → sp as σ Z → b_V_textOf_0 Z (ra_pad 2 as) [] σ) : ra_MOK l X mi_V_textOf sp := by
  refine ra_enter (k := fun Z as σ => b_V_textOf_0 Z) cn_V rfl (by decide +kernel) ⟨by decide +kernel, by decide +kernel⟩ (by decide +kernel) ?_ ve
  intro p e s m args below meth c Z as σ hsp F hr hlk
  exact o_V_textOf_0 F hr hlk

theorem d_T_isFigureAt_0 : decode prog_9_method_2_code 0 = .ok (.aload_n 0, 1) := by decide +kernel
theorem d_T_isFigureAt_1 : decode prog_9_method_2_code 1 = .ok (.getfield 9, 3) := by decide +kernel
theorem d_T_isFigureAt_4 : decode prog_9_method_2_code 4 = .ok (.iload_n 1, 1) := by decide +kernel
theorem d_T_isFigureAt_5 : decode prog_9_method_2_code 5 = .ok (.iaload, 1) := by decide +kernel
theorem d_T_isFigureAt_6 : decode prog_9_method_2_code 6 = .ok (.bipush 48, 2) := by decide +kernel
theorem d_T_isFigureAt_8 : decode prog_9_method_2_code 8 = .ok (.if_icmp .lt 18, 3) := by decide +kernel
theorem d_T_isFigureAt_11 : decode prog_9_method_2_code 11 = .ok (.aload_n 0, 1) := by decide +kernel
theorem d_T_isFigureAt_12 : decode prog_9_method_2_code 12 = .ok (.getfield 9, 3) := by decide +kernel
theorem d_T_isFigureAt_15 : decode prog_9_method_2_code 15 = .ok (.iload_n 1, 1) := by decide +kernel
theorem d_T_isFigureAt_16 : decode prog_9_method_2_code 16 = .ok (.iaload, 1) := by decide +kernel
theorem d_T_isFigureAt_17 : decode prog_9_method_2_code 17 = .ok (.bipush 57, 2) := by decide +kernel
theorem d_T_isFigureAt_19 : decode prog_9_method_2_code 19 = .ok (.if_icmp .gt 7, 3) := by decide +kernel
theorem d_T_isFigureAt_22 : decode prog_9_method_2_code 22 = .ok (.iconst 1, 1) := by decide +kernel
theorem d_T_isFigureAt_23 : decode prog_9_method_2_code 23 = .ok (.goto 4, 3) := by decide +kernel
theorem d_T_isFigureAt_26 : decode prog_9_method_2_code 26 = .ok (.iconst 0, 1) := by decide +kernel
theorem d_T_isFigureAt_27 : decode prog_9_method_2_code 27 = .ok (.ireturn, 1) := by decide +kernel
def b_T_isFigureAt_27 (Z : ra_R) : ra_K := w_zr Z
def b_T_isFigureAt_26 (Z : ra_R) : ra_K := w_c 0 <| (b_T_isFigureAt_27 Z)
def b_T_isFigureAt_22 (Z : ra_R) : ra_K := w_c 1 <| (b_T_isFigureAt_27 Z)
def b_T_isFigureAt_11 (Z : ra_R) : ra_K := w_al 0 <| w_gr 2 0 <| w_il 1 <| w_ald <| w_c 57 <| w_b2 (fun x y => y < x) (b_T_isFigureAt_26 Z) (b_T_isFigureAt_22 Z)
def b_T_isFigureAt_0 (Z : ra_R) : ra_K := w_al 0 <| w_gr 2 0 <| w_il 1 <| w_ald <| w_c 48 <| w_b2 (fun x y => x < y) (b_T_isFigureAt_26 Z) (b_T_isFigureAt_11 Z)
theorem o_T_isFigureAt_27 {X : ra_X} {p : Program} {l : Launch} {e : Env} {s : State} {m : MethodId} {args : Array Value} {below : List Frame} {meth : Method} {c : Code} {Z : ra_R}  (F : ra_Fx X p rm_T_isFigureAt s m args c prog_9_method_2_code 2 cn_T) (hr : meth.sig.returnType = (some .boolean)) (hlk : meth.locks = false) : ra_At X p l e rm_T_isFigureAt s m args below meth c 2 (MQ below (ra_Qc X Z) args s 0 0 (ra_A X)) (b_T_isFigureAt_27 Z) 27 :=
  r_zreturn F hr hlk d_T_isFigureAt_27
theorem o_T_isFigureAt_26 {X : ra_X} {p : Program} {l : Launch} {e : Env} {s : State} {m : MethodId} {args : Array Value} {below : List Frame} {meth : Method} {c : Code} {Z : ra_R}  (F : ra_Fx X p rm_T_isFigureAt s m args c prog_9_method_2_code 2 cn_T) (hr : meth.sig.returnType = (some .boolean)) (hlk : meth.locks = false) : ra_At X p l e rm_T_isFigureAt s m args below meth c 2 (MQ below (ra_Qc X Z) args s 0 0 (ra_A X)) (b_T_isFigureAt_26 Z) 26 :=
  r_iconst F d_T_isFigureAt_26 (by decide) <| (o_T_isFigureAt_27 F hr hlk)
theorem o_T_isFigureAt_22 {X : ra_X} {p : Program} {l : Launch} {e : Env} {s : State} {m : MethodId} {args : Array Value} {below : List Frame} {meth : Method} {c : Code} {Z : ra_R}  (F : ra_Fx X p rm_T_isFigureAt s m args c prog_9_method_2_code 2 cn_T) (hr : meth.sig.returnType = (some .boolean)) (hlk : meth.locks = false) : ra_At X p l e rm_T_isFigureAt s m args below meth c 2 (MQ below (ra_Qc X Z) args s 0 0 (ra_A X)) (b_T_isFigureAt_22 Z) 22 :=
  r_iconst F d_T_isFigureAt_22 (by decide) <| r_goto F d_T_isFigureAt_23 (by decide) (o_T_isFigureAt_27 F hr hlk)
theorem o_T_isFigureAt_11 {X : ra_X} {p : Program} {l : Launch} {e : Env} {s : State} {m : MethodId} {args : Array Value} {below : List Frame} {meth : Method} {c : Code} {Z : ra_R}  (F : ra_Fx X p rm_T_isFigureAt s m args c prog_9_method_2_code 2 cn_T) (hr : meth.sig.returnType = (some .boolean)) (hlk : meth.locks = false) : ra_At X p l e rm_T_isFigureAt s m args below meth c 2 (MQ below (ra_Qc X Z) args s 0 0 (ra_A X)) (b_T_isFigureAt_11 Z) 11 :=
  r_aload_n F d_T_isFigureAt_11 rfl <| r_getR F cg_T (j := 0) (by decide) rfl fl_T_9 d_T_isFigureAt_12 <| r_iload_n F d_T_isFigureAt_15 rfl <| r_iaload F d_T_isFigureAt_16 <| r_bipush F d_T_isFigureAt_17 (by decide) <| r_icmp_gt F d_T_isFigureAt_19 (by decide) (o_T_isFigureAt_26 F hr hlk) (o_T_isFigureAt_22 F hr hlk)
theorem o_T_isFigureAt_0 {X : ra_X} {p : Program} {l : Launch} {e : Env} {s : State} {m : MethodId} {args : Array Value} {below : List Frame} {meth : Method} {c : Code} {Z : ra_R}  (F : ra_Fx X p rm_T_isFigureAt s m args c prog_9_method_2_code 2 cn_T) (hr : meth.sig.returnType = (some .boolean)) (hlk : meth.locks = false) : ra_At X p l e rm_T_isFigureAt s m args below meth c 2 (MQ below (ra_Qc X Z) args s 0 0 (ra_A X)) (b_T_isFigureAt_0 Z) 0 :=
  r_aload_n F d_T_isFigureAt_0 rfl <| r_getR F cg_T (j := 0) (by decide) rfl fl_T_9 d_T_isFigureAt_1 <| r_iload_n F d_T_isFigureAt_4 rfl <| r_iaload F d_T_isFigureAt_5 <| r_bipush F d_T_isFigureAt_6 (by decide) <| r_icmp_lt F d_T_isFigureAt_8 (by decide) (o_T_isFigureAt_26 F hr hlk) (o_T_isFigureAt_11 F hr hlk)
theorem g_T_isFigureAt {l : Launch} {X : ra_X}  (sp : ra_Sp) (ve : ∀ as σ Z, ra_c1 as = true → as.length = 2 → sp as σ Z → b_T_isFigureAt_0 Z (ra_pad 2 as) [] σ) : ra_MOK l X mi_T_isFigureAt sp := by
  refine ra_enter (k := fun Z as σ => b_T_isFigureAt_0 Z) cn_T rfl (by decide +kernel) ⟨by decide +kernel, by decide +kernel⟩ (by decide +kernel) ?_ ve
  intro p e s m args below meth c Z as σ hsp F hr hlk
  exact o_T_isFigureAt_0 F hr hlk

theorem d_V_fitsInHouse_0 : decode prog_10_method_8_code 0 = .ok (.iload_n 1, 1) := by decide +kernel
theorem d_V_fitsInHouse_1 : decode prog_10_method_8_code 1 = .ok (.iconst 4, 1) := by decide +kernel
theorem d_V_fitsInHouse_2 : decode prog_10_method_8_code 2 = .ok (.irem, 1) := by decide +kernel
theorem d_V_fitsInHouse_3 : decode prog_10_method_8_code 3 = .ok (.lookupswitch 59 #[(2, 25), (3, 39)], 25) := by decide +kernel
theorem d_V_fitsInHouse_28 : decode prog_10_method_8_code 28 = .ok (.aload_n 0, 1) := by decide +kernel
theorem d_V_fitsInHouse_29 : decode prog_10_method_8_code 29 = .ok (.iload_n 1, 1) := by decide +kernel
theorem d_V_fitsInHouse_30 : decode prog_10_method_8_code 30 = .ok (.invokevirtual 87, 3) := by decide +kernel
theorem d_V_fitsInHouse_33 : decode prog_10_method_8_code 33 = .ok (.ifCond .lt 7, 3) := by decide +kernel
theorem d_V_fitsInHouse_36 : decode prog_10_method_8_code 36 = .ok (.iconst 1, 1) := by decide +kernel
theorem d_V_fitsInHouse_37 : decode prog_10_method_8_code 37 = .ok (.goto 4, 3) := by decide +kernel
theorem d_V_fitsInHouse_40 : decode prog_10_method_8_code 40 = .ok (.iconst 0, 1) := by decide +kernel
theorem d_V_fitsInHouse_41 : decode prog_10_method_8_code 41 = .ok (.ireturn, 1) := by decide +kernel
theorem d_V_fitsInHouse_42 : decode prog_10_method_8_code 42 = .ok (.aload_n 0, 1) := by decide +kernel
theorem d_V_fitsInHouse_43 : decode prog_10_method_8_code 43 = .ok (.getfield 14, 3) := by decide +kernel
theorem d_V_fitsInHouse_46 : decode prog_10_method_8_code 46 = .ok (.getfield 55, 3) := by decide +kernel
theorem d_V_fitsInHouse_49 : decode prog_10_method_8_code 49 = .ok (.iload_n 1, 1) := by decide +kernel
theorem d_V_fitsInHouse_50 : decode prog_10_method_8_code 50 = .ok (.iaload, 1) := by decide +kernel
theorem d_V_fitsInHouse_51 : decode prog_10_method_8_code 51 = .ok (.bipush 59, 2) := by decide +kernel
theorem d_V_fitsInHouse_53 : decode prog_10_method_8_code 53 = .ok (.if_icmp .ne 7, 3) := by decide +kernel
theorem d_V_fitsInHouse_56 : decode prog_10_method_8_code 56 = .ok (.iconst 1, 1) := by decide +kernel
theorem d_V_fitsInHouse_57 : decode prog_10_method_8_code 57 = .ok (.goto 4, 3) := by decide +kernel
theorem d_V_fitsInHouse_60 : decode prog_10_method_8_code 60 = .ok (.iconst 0, 1) := by decide +kernel
theorem d_V_fitsInHouse_61 : decode prog_10_method_8_code 61 = .ok (.ireturn, 1) := by decide +kernel
theorem d_V_fitsInHouse_62 : decode prog_10_method_8_code 62 = .ok (.aload_n 0, 1) := by decide +kernel
theorem d_V_fitsInHouse_63 : decode prog_10_method_8_code 63 = .ok (.getfield 14, 3) := by decide +kernel
theorem d_V_fitsInHouse_66 : decode prog_10_method_8_code 66 = .ok (.iload_n 1, 1) := by decide +kernel
theorem d_V_fitsInHouse_67 : decode prog_10_method_8_code 67 = .ok (.invokevirtual 91, 3) := by decide +kernel
theorem d_V_fitsInHouse_70 : decode prog_10_method_8_code 70 = .ok (.ireturn, 1) := by decide +kernel
def b_V_fitsInHouse_62 (c0 c1 : ra_Sp) (Z : ra_R) : ra_K := w_al 0 <| w_gr 1 0 <| w_il 1 <| w_cv c1 2 2 <| w_zr Z
def b_V_fitsInHouse_61 (c0 c1 : ra_Sp) (Z : ra_R) : ra_K := w_zr Z
def b_V_fitsInHouse_60 (c0 c1 : ra_Sp) (Z : ra_R) : ra_K := w_c 0 <| (b_V_fitsInHouse_61 c0 c1 Z)
def b_V_fitsInHouse_56 (c0 c1 : ra_Sp) (Z : ra_R) : ra_K := w_c 1 <| (b_V_fitsInHouse_61 c0 c1 Z)
def b_V_fitsInHouse_42 (c0 c1 : ra_Sp) (Z : ra_R) : ra_K := w_al 0 <| w_gr 1 0 <| w_gr 2 0 <| w_il 1 <| w_ald <| w_c 59 <| w_b2 (fun x y => x = y) (b_V_fitsInHouse_56 c0 c1 Z) (b_V_fitsInHouse_60 c0 c1 Z)
def b_V_fitsInHouse_41 (c0 c1 : ra_Sp) (Z : ra_R) : ra_K := w_zr Z
def b_V_fitsInHouse_40 (c0 c1 : ra_Sp) (Z : ra_R) : ra_K := w_c 0 <| (b_V_fitsInHouse_41 c0 c1 Z)
def b_V_fitsInHouse_36 (c0 c1 : ra_Sp) (Z : ra_R) : ra_K := w_c 1 <| (b_V_fitsInHouse_41 c0 c1 Z)
def b_V_fitsInHouse_28 (c0 c1 : ra_Sp) (Z : ra_R) : ra_K := w_al 0 <| w_il 1 <| w_cv c0 2 1 <| w_b1 (fun x => x < 0) (b_V_fitsInHouse_40 c0 c1 Z) (b_V_fitsInHouse_36 c0 c1 Z)
def b_V_fitsInHouse_0 (c0 c1 : ra_Sp) (Z : ra_R) : ra_K := w_il 1 <| w_c 4 <| w_dv (fun x y => x - x / y * y) <| w_sw [(2, (b_V_fitsInHouse_28 c0 c1 Z)), (3, (b_V_fitsInHouse_42 c0 c1 Z))] (b_V_fitsInHouse_62 c0 c1 Z)
theorem o_V_fitsInHouse_62 {X : ra_X} {p : Program} {l : Launch} {e : Env} {s : State} {m : MethodId} {args : Array Value} {below : List Frame} {meth : Method} {c : Code} {Z : ra_R} {c0 c1 : ra_Sp}  (h0 : ra_MOK l X mi_V_temperAt c0) (h1 : ra_MOK l X mi_T_isFigureAt c1) (F : ra_Fx X p rm_V_fitsInHouse s m args c prog_10_method_8_code 2 cn_V) (hr : meth.sig.returnType = (some .boolean)) (hlk : meth.locks = false) : ra_At X p l e rm_V_fitsInHouse s m args below meth c 2 (MQ below (ra_Qc X Z) args s 0 0 (ra_A X)) (b_V_fitsInHouse_62 c0 c1 Z) 62 :=
  r_aload_n F d_V_fitsInHouse_62 rfl <| r_getR F cg_V (j := 0) (by decide) rfl fl_V_14 d_V_fitsInHouse_63 <| r_iload_n F d_V_fitsInHouse_66 rfl <| r_callV F h1 (co_T_isFigureAt (by decide +kernel) (by decide +kernel)) ⟨rfl, by decide +kernel⟩ ⟨rfl, by decide⟩ ml_V_91 im_T_isFigureAt se_T_isFigureAt d_V_fitsInHouse_67 <| r_zreturn F hr hlk d_V_fitsInHouse_70
theorem o_V_fitsInHouse_61 {X : ra_X} {p : Program} {l : Launch} {e : Env} {s : State} {m : MethodId} {args : Array Value} {below : List Frame} {meth : Method} {c : Code} {Z : ra_R} {c0 c1 : ra_Sp}  (h0 : ra_MOK l X mi_V_temperAt c0) (h1 : ra_MOK l X mi_T_isFigureAt c1) (F : ra_Fx X p rm_V_fitsInHouse s m args c prog_10_method_8_code 2 cn_V) (hr : meth.sig.returnType = (some .boolean)) (hlk : meth.locks = false) : ra_At X p l e rm_V_fitsInHouse s m args below meth c 2 (MQ below (ra_Qc X Z) args s 0 0 (ra_A X)) (b_V_fitsInHouse_61 c0 c1 Z) 61 :=
  r_zreturn F hr hlk d_V_fitsInHouse_61
theorem o_V_fitsInHouse_60 {X : ra_X} {p : Program} {l : Launch} {e : Env} {s : State} {m : MethodId} {args : Array Value} {below : List Frame} {meth : Method} {c : Code} {Z : ra_R} {c0 c1 : ra_Sp}  (h0 : ra_MOK l X mi_V_temperAt c0) (h1 : ra_MOK l X mi_T_isFigureAt c1) (F : ra_Fx X p rm_V_fitsInHouse s m args c prog_10_method_8_code 2 cn_V) (hr : meth.sig.returnType = (some .boolean)) (hlk : meth.locks = false) : ra_At X p l e rm_V_fitsInHouse s m args below meth c 2 (MQ below (ra_Qc X Z) args s 0 0 (ra_A X)) (b_V_fitsInHouse_60 c0 c1 Z) 60 :=
  r_iconst F d_V_fitsInHouse_60 (by decide) <| (o_V_fitsInHouse_61 h0 h1 F hr hlk)
theorem o_V_fitsInHouse_56 {X : ra_X} {p : Program} {l : Launch} {e : Env} {s : State} {m : MethodId} {args : Array Value} {below : List Frame} {meth : Method} {c : Code} {Z : ra_R} {c0 c1 : ra_Sp}  (h0 : ra_MOK l X mi_V_temperAt c0) (h1 : ra_MOK l X mi_T_isFigureAt c1) (F : ra_Fx X p rm_V_fitsInHouse s m args c prog_10_method_8_code 2 cn_V) (hr : meth.sig.returnType = (some .boolean)) (hlk : meth.locks = false) : ra_At X p l e rm_V_fitsInHouse s m args below meth c 2 (MQ below (ra_Qc X Z) args s 0 0 (ra_A X)) (b_V_fitsInHouse_56 c0 c1 Z) 56 :=
  r_iconst F d_V_fitsInHouse_56 (by decide) <| r_goto F d_V_fitsInHouse_57 (by decide) (o_V_fitsInHouse_61 h0 h1 F hr hlk)
theorem o_V_fitsInHouse_42 {X : ra_X} {p : Program} {l : Launch} {e : Env} {s : State} {m : MethodId} {args : Array Value} {below : List Frame} {meth : Method} {c : Code} {Z : ra_R} {c0 c1 : ra_Sp}  (h0 : ra_MOK l X mi_V_temperAt c0) (h1 : ra_MOK l X mi_T_isFigureAt c1) (F : ra_Fx X p rm_V_fitsInHouse s m args c prog_10_method_8_code 2 cn_V) (hr : meth.sig.returnType = (some .boolean)) (hlk : meth.locks = false) : ra_At X p l e rm_V_fitsInHouse s m args below meth c 2 (MQ below (ra_Qc X Z) args s 0 0 (ra_A X)) (b_V_fitsInHouse_42 c0 c1 Z) 42 :=
  r_aload_n F d_V_fitsInHouse_42 rfl <| r_getR F cg_V (j := 0) (by decide) rfl fl_V_14 d_V_fitsInHouse_43 <| r_getR F cg_T (j := 0) (by decide) rfl fl_V_55 d_V_fitsInHouse_46 <| r_iload_n F d_V_fitsInHouse_49 rfl <| r_iaload F d_V_fitsInHouse_50 <| r_bipush F d_V_fitsInHouse_51 (by decide) <| r_icmp_ne F d_V_fitsInHouse_53 (by decide) (o_V_fitsInHouse_60 h0 h1 F hr hlk) (o_V_fitsInHouse_56 h0 h1 F hr hlk)
theorem o_V_fitsInHouse_41 {X : ra_X} {p : Program} {l : Launch} {e : Env} {s : State} {m : MethodId} {args : Array Value} {below : List Frame} {meth : Method} {c : Code} {Z : ra_R} {c0 c1 : ra_Sp}  (h0 : ra_MOK l X mi_V_temperAt c0) (h1 : ra_MOK l X mi_T_isFigureAt c1) (F : ra_Fx X p rm_V_fitsInHouse s m args c prog_10_method_8_code 2 cn_V) (hr : meth.sig.returnType = (some .boolean)) (hlk : meth.locks = false) : ra_At X p l e rm_V_fitsInHouse s m args below meth c 2 (MQ below (ra_Qc X Z) args s 0 0 (ra_A X)) (b_V_fitsInHouse_41 c0 c1 Z) 41 :=
  r_zreturn F hr hlk d_V_fitsInHouse_41
theorem o_V_fitsInHouse_40 {X : ra_X} {p : Program} {l : Launch} {e : Env} {s : State} {m : MethodId} {args : Array Value} {below : List Frame} {meth : Method} {c : Code} {Z : ra_R} {c0 c1 : ra_Sp}  (h0 : ra_MOK l X mi_V_temperAt c0) (h1 : ra_MOK l X mi_T_isFigureAt c1) (F : ra_Fx X p rm_V_fitsInHouse s m args c prog_10_method_8_code 2 cn_V) (hr : meth.sig.returnType = (some .boolean)) (hlk : meth.locks = false) : ra_At X p l e rm_V_fitsInHouse s m args below meth c 2 (MQ below (ra_Qc X Z) args s 0 0 (ra_A X)) (b_V_fitsInHouse_40 c0 c1 Z) 40 :=
  r_iconst F d_V_fitsInHouse_40 (by decide) <| (o_V_fitsInHouse_41 h0 h1 F hr hlk)
theorem o_V_fitsInHouse_36 {X : ra_X} {p : Program} {l : Launch} {e : Env} {s : State} {m : MethodId} {args : Array Value} {below : List Frame} {meth : Method} {c : Code} {Z : ra_R} {c0 c1 : ra_Sp}  (h0 : ra_MOK l X mi_V_temperAt c0) (h1 : ra_MOK l X mi_T_isFigureAt c1) (F : ra_Fx X p rm_V_fitsInHouse s m args c prog_10_method_8_code 2 cn_V) (hr : meth.sig.returnType = (some .boolean)) (hlk : meth.locks = false) : ra_At X p l e rm_V_fitsInHouse s m args below meth c 2 (MQ below (ra_Qc X Z) args s 0 0 (ra_A X)) (b_V_fitsInHouse_36 c0 c1 Z) 36 :=
  r_iconst F d_V_fitsInHouse_36 (by decide) <| r_goto F d_V_fitsInHouse_37 (by decide) (o_V_fitsInHouse_41 h0 h1 F hr hlk)
theorem o_V_fitsInHouse_28 {X : ra_X} {p : Program} {l : Launch} {e : Env} {s : State} {m : MethodId} {args : Array Value} {below : List Frame} {meth : Method} {c : Code} {Z : ra_R} {c0 c1 : ra_Sp}  (h0 : ra_MOK l X mi_V_temperAt c0) (h1 : ra_MOK l X mi_T_isFigureAt c1) (F : ra_Fx X p rm_V_fitsInHouse s m args c prog_10_method_8_code 2 cn_V) (hr : meth.sig.returnType = (some .boolean)) (hlk : meth.locks = false) : ra_At X p l e rm_V_fitsInHouse s m args below meth c 2 (MQ below (ra_Qc X Z) args s 0 0 (ra_A X)) (b_V_fitsInHouse_28 c0 c1 Z) 28 :=
  r_aload_n F d_V_fitsInHouse_28 rfl <| r_iload_n F d_V_fitsInHouse_29 rfl <| r_callV F h0 (co_V_temperAt (by decide +kernel) (by decide +kernel)) ⟨rfl, by decide +kernel⟩ ⟨rfl, by decide⟩ ml_V_87 im_V_temperAt se_V_temperAt d_V_fitsInHouse_30 <| r_if_lt F d_V_fitsInHouse_33 (by decide) (o_V_fitsInHouse_40 h0 h1 F hr hlk) (o_V_fitsInHouse_36 h0 h1 F hr hlk)
theorem o_V_fitsInHouse_0 {X : ra_X} {p : Program} {l : Launch} {e : Env} {s : State} {m : MethodId} {args : Array Value} {below : List Frame} {meth : Method} {c : Code} {Z : ra_R} {c0 c1 : ra_Sp}  (h0 : ra_MOK l X mi_V_temperAt c0) (h1 : ra_MOK l X mi_T_isFigureAt c1) (F : ra_Fx X p rm_V_fitsInHouse s m args c prog_10_method_8_code 2 cn_V) (hr : meth.sig.returnType = (some .boolean)) (hlk : meth.locks = false) : ra_At X p l e rm_V_fitsInHouse s m args below meth c 2 (MQ below (ra_Qc X Z) args s 0 0 (ra_A X)) (b_V_fitsInHouse_0 c0 c1 Z) 0 :=
  r_iload_n F d_V_fitsInHouse_0 rfl <| r_iconst F d_V_fitsInHouse_1 (by decide) <| r_irem F d_V_fitsInHouse_2 <| r_lsw2 F d_V_fitsInHouse_3 (by decide) (by decide) (by decide) (by decide) (by decide) (by decide) (o_V_fitsInHouse_28 h0 h1 F hr hlk) (o_V_fitsInHouse_42 h0 h1 F hr hlk) (o_V_fitsInHouse_62 h0 h1 F hr hlk)
theorem g_V_fitsInHouse {l : Launch} {X : ra_X} {c0 c1 : ra_Sp}  (h0 : ra_MOK l X mi_V_temperAt c0) (h1 : ra_MOK l X mi_T_isFigureAt c1) (sp : ra_Sp) (ve : ∀ as σ Z, ra_c1 as = true → as.length = 2 → sp as σ Z → b_V_fitsInHouse_0 c0 c1 Z (ra_pad 2 as) [] σ) : ra_MOK l X mi_V_fitsInHouse sp := by
  refine ra_enter (k := fun Z as σ => b_V_fitsInHouse_0 c0 c1 Z) cn_V rfl (by decide +kernel) ⟨by decide +kernel, by decide +kernel⟩ (by decide +kernel) ?_ ve
  intro p e s m args below meth c Z as σ hsp F hr hlk
  exact o_V_fitsInHouse_0 h0 h1 F hr hlk

theorem d_V_findHousesFault_0 : decode prog_10_method_7_code 0 = .ok (.iconst 0, 1) := by decide +kernel
theorem d_V_findHousesFault_1 : decode prog_10_method_7_code 1 = .ok (.istore_n 1, 1) := by decide +kernel
theorem d_V_findHousesFault_2 : decode prog_10_method_7_code 2 = .ok (.iload_n 1, 1) := by decide +kernel
theorem d_V_findHousesFault_3 : decode prog_10_method_7_code 3 = .ok (.aload_n 0, 1) := by decide +kernel
theorem d_V_findHousesFault_4 : decode prog_10_method_7_code 4 = .ok (.getfield 14, 3) := by decide +kernel
theorem d_V_findHousesFault_7 : decode prog_10_method_7_code 7 = .ok (.getfield 49, 3) := by decide +kernel
theorem d_V_findHousesFault_10 : decode prog_10_method_7_code 10 = .ok (.if_icmp .ge 27, 3) := by decide +kernel
theorem d_V_findHousesFault_13 : decode prog_10_method_7_code 13 = .ok (.iload_n 1, 1) := by decide +kernel
theorem d_V_findHousesFault_14 : decode prog_10_method_7_code 14 = .ok (.iconst 4, 1) := by decide +kernel
theorem d_V_findHousesFault_15 : decode prog_10_method_7_code 15 = .ok (.idiv, 1) := by decide +kernel
theorem d_V_findHousesFault_16 : decode prog_10_method_7_code 16 = .ok (.bipush 8, 2) := by decide +kernel
theorem d_V_findHousesFault_18 : decode prog_10_method_7_code 18 = .ok (.if_icmp .ge 11, 3) := by decide +kernel
theorem d_V_findHousesFault_21 : decode prog_10_method_7_code 21 = .ok (.aload_n 0, 1) := by decide +kernel
theorem d_V_findHousesFault_22 : decode prog_10_method_7_code 22 = .ok (.iload_n 1, 1) := by decide +kernel
theorem d_V_findHousesFault_23 : decode prog_10_method_7_code 23 = .ok (.invokevirtual 83, 3) := by decide +kernel
theorem d_V_findHousesFault_26 : decode prog_10_method_7_code 26 = .ok (.ifCond .ne 5, 3) := by decide +kernel
theorem d_V_findHousesFault_29 : decode prog_10_method_7_code 29 = .ok (.iload_n 1, 1) := by decide +kernel
theorem d_V_findHousesFault_30 : decode prog_10_method_7_code 30 = .ok (.ireturn, 1) := by decide +kernel
theorem d_V_findHousesFault_31 : decode prog_10_method_7_code 31 = .ok (.iinc 1 1, 3) := by decide +kernel
theorem d_V_findHousesFault_34 : decode prog_10_method_7_code 34 = .ok (.goto (-32), 3) := by decide +kernel
theorem d_V_findHousesFault_37 : decode prog_10_method_7_code 37 = .ok (.aload_n 0, 1) := by decide +kernel
theorem d_V_findHousesFault_38 : decode prog_10_method_7_code 38 = .ok (.getfield 14, 3) := by decide +kernel
theorem d_V_findHousesFault_41 : decode prog_10_method_7_code 41 = .ok (.getfield 49, 3) := by decide +kernel
theorem d_V_findHousesFault_44 : decode prog_10_method_7_code 44 = .ok (.ifCond .eq 16, 3) := by decide +kernel
theorem d_V_findHousesFault_47 : decode prog_10_method_7_code 47 = .ok (.aload_n 0, 1) := by decide +kernel
theorem d_V_findHousesFault_48 : decode prog_10_method_7_code 48 = .ok (.getfield 14, 3) := by decide +kernel
theorem d_V_findHousesFault_51 : decode prog_10_method_7_code 51 = .ok (.getfield 49, 3) := by decide +kernel
theorem d_V_findHousesFault_54 : decode prog_10_method_7_code 54 = .ok (.iconst 4, 1) := by decide +kernel
theorem d_V_findHousesFault_55 : decode prog_10_method_7_code 55 = .ok (.irem, 1) := by decide +kernel
theorem d_V_findHousesFault_56 : decode prog_10_method_7_code 56 = .ok (.iconst 3, 1) := by decide +kernel
theorem d_V_findHousesFault_57 : decode prog_10_method_7_code 57 = .ok (.if_icmp .ne 7, 3) := by decide +kernel
theorem d_V_findHousesFault_60 : decode prog_10_method_7_code 60 = .ok (.iconst (-1), 1) := by decide +kernel
theorem d_V_findHousesFault_61 : decode prog_10_method_7_code 61 = .ok (.goto 10, 3) := by decide +kernel
theorem d_V_findHousesFault_64 : decode prog_10_method_7_code 64 = .ok (.aload_n 0, 1) := by decide +kernel
theorem d_V_findHousesFault_65 : decode prog_10_method_7_code 65 = .ok (.getfield 14, 3) := by decide +kernel
theorem d_V_findHousesFault_68 : decode prog_10_method_7_code 68 = .ok (.getfield 49, 3) := by decide +kernel
theorem d_V_findHousesFault_71 : decode prog_10_method_7_code 71 = .ok (.ireturn, 1) := by decide +kernel
def b_V_findHousesFault_71 (c0 : ra_Sp) (I : Nat → ra_K) (Z : ra_R) : ra_K := w_ir Z
def b_V_findHousesFault_64 (c0 : ra_Sp) (I : Nat → ra_K) (Z : ra_R) : ra_K := w_al 0 <| w_gr 1 0 <| w_gi 2 2 <| (b_V_findHousesFault_71 c0 I Z)
def b_V_findHousesFault_60 (c0 : ra_Sp) (I : Nat → ra_K) (Z : ra_R) : ra_K := w_c (-1) <| (b_V_findHousesFault_71 c0 I Z)
def b_V_findHousesFault_47 (c0 : ra_Sp) (I : Nat → ra_K) (Z : ra_R) : ra_K := w_al 0 <| w_gr 1 0 <| w_gi 2 2 <| w_c 4 <| w_dv (fun x y => x - x / y * y) <| w_c 3 <| w_b2 (fun x y => x = y) (b_V_findHousesFault_60 c0 I Z) (b_V_findHousesFault_64 c0 I Z)
def b_V_findHousesFault_37 (c0 : ra_Sp) (I : Nat → ra_K) (Z : ra_R) : ra_K := w_al 0 <| w_gr 1 0 <| w_gi 2 2 <| w_b1 (fun x => x = 0) (b_V_findHousesFault_60 c0 I Z) (b_V_findHousesFault_47 c0 I Z)
def b_V_findHousesFault_31 (c0 : ra_Sp) (I : Nat → ra_K) (Z : ra_R) : ra_K := w_inc 1 1 <| (I 2)
def b_V_findHousesFault_29 (c0 : ra_Sp) (I : Nat → ra_K) (Z : ra_R) : ra_K := w_il 1 <| w_ir Z
def b_V_findHousesFault_21 (c0 : ra_Sp) (I : Nat → ra_K) (Z : ra_R) : ra_K := w_al 0 <| w_il 1 <| w_cv c0 2 1 <| w_b1 (fun x => x = 0) (b_V_findHousesFault_29 c0 I Z) (b_V_findHousesFault_31 c0 I Z)
def b_V_findHousesFault_13 (c0 : ra_Sp) (I : Nat → ra_K) (Z : ra_R) : ra_K := w_il 1 <| w_c 4 <| w_dv (fun x y => x / y) <| w_c 8 <| w_b2 (fun x y => y ≤ x) (b_V_findHousesFault_29 c0 I Z) (b_V_findHousesFault_21 c0 I Z)
def b_V_findHousesFault_2 (c0 : ra_Sp) (I : Nat → ra_K) (Z : ra_R) : ra_K := w_il 1 <| w_al 0 <| w_gr 1 0 <| w_gi 2 2 <| w_b2 (fun x y => y ≤ x) (b_V_findHousesFault_37 c0 I Z) (b_V_findHousesFault_13 c0 I Z)
def b_V_findHousesFault_0 (c0 : ra_Sp) (I : Nat → ra_K) (Z : ra_R) : ra_K := w_c 0 <| w_is 1 <| (I 2)
theorem o_V_findHousesFault_71 {X : ra_X} {p : Program} {l : Launch} {e : Env} {s : State} {m : MethodId} {args : Array Value} {below : List Frame} {meth : Method} {c : Code} {Z : ra_R} {c0 : ra_Sp}  (h0 : ra_MOK l X mi_V_fitsInHouse c0) (F : ra_Fx X p rm_V_findHousesFault s m args c prog_10_method_7_code 2 cn_V) (hr : meth.sig.returnType = (some .int)) (hlk : meth.locks = false) {I : Nat → ra_K} (hI : ∀ t ∈ [2], ra_At X p l e rm_V_findHousesFault s m args below meth c 2 (MQ below (ra_Qc X Z) args s 0 0 (ra_A X)) (I t) t) : ra_At X p l e rm_V_findHousesFault s m args below meth c 2 (MQ below (ra_Qc X Z) args s 0 0 (ra_A X)) (b_V_findHousesFault_71 c0 I Z) 71 :=
  r_ireturn F hr hlk d_V_findHousesFault_71
theorem o_V_findHousesFault_64 {X : ra_X} {p : Program} {l : Launch} {e : Env} {s : State} {m : MethodId} {args : Array Value} {below : List Frame} {meth : Method} {c : Code} {Z : ra_R} {c0 : ra_Sp}  (h0 : ra_MOK l X mi_V_fitsInHouse c0) (F : ra_Fx X p rm_V_findHousesFault s m args c prog_10_method_7_code 2 cn_V) (hr : meth.sig.returnType = (some .int)) (hlk : meth.locks = false) {I : Nat → ra_K} (hI : ∀ t ∈ [2], ra_At X p l e rm_V_findHousesFault s m args below meth c 2 (MQ below (ra_Qc X Z) args s 0 0 (ra_A X)) (I t) t) : ra_At X p l e rm_V_findHousesFault s m args below meth c 2 (MQ below (ra_Qc X Z) args s 0 0 (ra_A X)) (b_V_findHousesFault_64 c0 I Z) 64 :=
  r_aload_n F d_V_findHousesFault_64 rfl <| r_getR F cg_V (j := 0) (by decide) rfl fl_V_14 d_V_findHousesFault_65 <| r_getI F cg_T (j := 2) (by decide) rfl fl_V_49 d_V_findHousesFault_68 <| (o_V_findHousesFault_71 h0 F hr hlk hI)
theorem o_V_findHousesFault_60 {X : ra_X} {p : Program} {l : Launch} {e : Env} {s : State} {m : MethodId} {args : Array Value} {below : List Frame} {meth : Method} {c : Code} {Z : ra_R} {c0 : ra_Sp}  (h0 : ra_MOK l X mi_V_fitsInHouse c0) (F : ra_Fx X p rm_V_findHousesFault s m args c prog_10_method_7_code 2 cn_V) (hr : meth.sig.returnType = (some .int)) (hlk : meth.locks = false) {I : Nat → ra_K} (hI : ∀ t ∈ [2], ra_At X p l e rm_V_findHousesFault s m args below meth c 2 (MQ below (ra_Qc X Z) args s 0 0 (ra_A X)) (I t) t) : ra_At X p l e rm_V_findHousesFault s m args below meth c 2 (MQ below (ra_Qc X Z) args s 0 0 (ra_A X)) (b_V_findHousesFault_60 c0 I Z) 60 :=
  r_iconst F d_V_findHousesFault_60 (by decide) <| r_goto F d_V_findHousesFault_61 (by decide) (o_V_findHousesFault_71 h0 F hr hlk hI)
theorem o_V_findHousesFault_47 {X : ra_X} {p : Program} {l : Launch} {e : Env} {s : State} {m : MethodId} {args : Array Value} {below : List Frame} {meth : Method} {c : Code} {Z : ra_R} {c0 : ra_Sp}  (h0 : ra_MOK l X mi_V_fitsInHouse c0) (F : ra_Fx X p rm_V_findHousesFault s m args c prog_10_method_7_code 2 cn_V) (hr : meth.sig.returnType = (some .int)) (hlk : meth.locks = false) {I : Nat → ra_K} (hI : ∀ t ∈ [2], ra_At X p l e rm_V_findHousesFault s m args below meth c 2 (MQ below (ra_Qc X Z) args s 0 0 (ra_A X)) (I t) t) : ra_At X p l e rm_V_findHousesFault s m args below meth c 2 (MQ below (ra_Qc X Z) args s 0 0 (ra_A X)) (b_V_findHousesFault_47 c0 I Z) 47 :=
  r_aload_n F d_V_findHousesFault_47 rfl <| r_getR F cg_V (j := 0) (by decide) rfl fl_V_14 d_V_findHousesFault_48 <| r_getI F cg_T (j := 2) (by decide) rfl fl_V_49 d_V_findHousesFault_51 <| r_iconst F d_V_findHousesFault_54 (by decide) <| r_irem F d_V_findHousesFault_55 <| r_iconst F d_V_findHousesFault_56 (by decide) <| r_icmp_ne F d_V_findHousesFault_57 (by decide) (o_V_findHousesFault_64 h0 F hr hlk hI) (o_V_findHousesFault_60 h0 F hr hlk hI)
theorem o_V_findHousesFault_37 {X : ra_X} {p : Program} {l : Launch} {e : Env} {s : State} {m : MethodId} {args : Array Value} {below : List Frame} {meth : Method} {c : Code} {Z : ra_R} {c0 : ra_Sp}  (h0 : ra_MOK l X mi_V_fitsInHouse c0) (F : ra_Fx X p rm_V_findHousesFault s m args c prog_10_method_7_code 2 cn_V) (hr : meth.sig.returnType = (some .int)) (hlk : meth.locks = false) {I : Nat → ra_K} (hI : ∀ t ∈ [2], ra_At X p l e rm_V_findHousesFault s m args below meth c 2 (MQ below (ra_Qc X Z) args s 0 0 (ra_A X)) (I t) t) : ra_At X p l e rm_V_findHousesFault s m args below meth c 2 (MQ below (ra_Qc X Z) args s 0 0 (ra_A X)) (b_V_findHousesFault_37 c0 I Z) 37 :=
  r_aload_n F d_V_findHousesFault_37 rfl <| r_getR F cg_V (j := 0) (by decide) rfl fl_V_14 d_V_findHousesFault_38 <| r_getI F cg_T (j := 2) (by decide) rfl fl_V_49 d_V_findHousesFault_41 <| r_if_eq F d_V_findHousesFault_44 (by decide) (o_V_findHousesFault_60 h0 F hr hlk hI) (o_V_findHousesFault_47 h0 F hr hlk hI)
theorem o_V_findHousesFault_31 {X : ra_X} {p : Program} {l : Launch} {e : Env} {s : State} {m : MethodId} {args : Array Value} {below : List Frame} {meth : Method} {c : Code} {Z : ra_R} {c0 : ra_Sp}  (h0 : ra_MOK l X mi_V_fitsInHouse c0) (F : ra_Fx X p rm_V_findHousesFault s m args c prog_10_method_7_code 2 cn_V) (hr : meth.sig.returnType = (some .int)) (hlk : meth.locks = false) {I : Nat → ra_K} (hI : ∀ t ∈ [2], ra_At X p l e rm_V_findHousesFault s m args below meth c 2 (MQ below (ra_Qc X Z) args s 0 0 (ra_A X)) (I t) t) : ra_At X p l e rm_V_findHousesFault s m args below meth c 2 (MQ below (ra_Qc X Z) args s 0 0 (ra_A X)) (b_V_findHousesFault_31 c0 I Z) 31 :=
  r_iinc F d_V_findHousesFault_31 (by decide) (by decide) <| r_goto F d_V_findHousesFault_34 (by decide) (hI 2 (by decide))
theorem o_V_findHousesFault_29 {X : ra_X} {p : Program} {l : Launch} {e : Env} {s : State} {m : MethodId} {args : Array Value} {below : List Frame} {meth : Method} {c : Code} {Z : ra_R} {c0 : ra_Sp}  (h0 : ra_MOK l X mi_V_fitsInHouse c0) (F : ra_Fx X p rm_V_findHousesFault s m args c prog_10_method_7_code 2 cn_V) (hr : meth.sig.returnType = (some .int)) (hlk : meth.locks = false) {I : Nat → ra_K} (hI : ∀ t ∈ [2], ra_At X p l e rm_V_findHousesFault s m args below meth c 2 (MQ below (ra_Qc X Z) args s 0 0 (ra_A X)) (I t) t) : ra_At X p l e rm_V_findHousesFault s m args below meth c 2 (MQ below (ra_Qc X Z) args s 0 0 (ra_A X)) (b_V_findHousesFault_29 c0 I Z) 29 :=
  r_iload_n F d_V_findHousesFault_29 rfl <| r_ireturn F hr hlk d_V_findHousesFault_30
theorem o_V_findHousesFault_21 {X : ra_X} {p : Program} {l : Launch} {e : Env} {s : State} {m : MethodId} {args : Array Value} {below : List Frame} {meth : Method} {c : Code} {Z : ra_R} {c0 : ra_Sp}  (h0 : ra_MOK l X mi_V_fitsInHouse c0) (F : ra_Fx X p rm_V_findHousesFault s m args c prog_10_method_7_code 2 cn_V) (hr : meth.sig.returnType = (some .int)) (hlk : meth.locks = false) {I : Nat → ra_K} (hI : ∀ t ∈ [2], ra_At X p l e rm_V_findHousesFault s m args below meth c 2 (MQ below (ra_Qc X Z) args s 0 0 (ra_A X)) (I t) t) : ra_At X p l e rm_V_findHousesFault s m args below meth c 2 (MQ below (ra_Qc X Z) args s 0 0 (ra_A X)) (b_V_findHousesFault_21 c0 I Z) 21 :=
  r_aload_n F d_V_findHousesFault_21 rfl <| r_iload_n F d_V_findHousesFault_22 rfl <| r_callV F h0 (co_V_fitsInHouse (by decide +kernel) (by decide +kernel)) ⟨rfl, by decide +kernel⟩ ⟨rfl, by decide⟩ ml_V_83 im_V_fitsInHouse se_V_fitsInHouse d_V_findHousesFault_23 <| r_if_ne F d_V_findHousesFault_26 (by decide) (o_V_findHousesFault_31 h0 F hr hlk hI) (o_V_findHousesFault_29 h0 F hr hlk hI)
theorem o_V_findHousesFault_13 {X : ra_X} {p : Program} {l : Launch} {e : Env} {s : State} {m : MethodId} {args : Array Value} {below : List Frame} {meth : Method} {c : Code} {Z : ra_R} {c0 : ra_Sp}  (h0 : ra_MOK l X mi_V_fitsInHouse c0) (F : ra_Fx X p rm_V_findHousesFault s m args c prog_10_method_7_code 2 cn_V) (hr : meth.sig.returnType = (some .int)) (hlk : meth.locks = false) {I : Nat → ra_K} (hI : ∀ t ∈ [2], ra_At X p l e rm_V_findHousesFault s m args below meth c 2 (MQ below (ra_Qc X Z) args s 0 0 (ra_A X)) (I t) t) : ra_At X p l e rm_V_findHousesFault s m args below meth c 2 (MQ below (ra_Qc X Z) args s 0 0 (ra_A X)) (b_V_findHousesFault_13 c0 I Z) 13 :=
  r_iload_n F d_V_findHousesFault_13 rfl <| r_iconst F d_V_findHousesFault_14 (by decide) <| r_idiv F d_V_findHousesFault_15 <| r_bipush F d_V_findHousesFault_16 (by decide) <| r_icmp_ge F d_V_findHousesFault_18 (by decide) (o_V_findHousesFault_29 h0 F hr hlk hI) (o_V_findHousesFault_21 h0 F hr hlk hI)
theorem o_V_findHousesFault_2 {X : ra_X} {p : Program} {l : Launch} {e : Env} {s : State} {m : MethodId} {args : Array Value} {below : List Frame} {meth : Method} {c : Code} {Z : ra_R} {c0 : ra_Sp}  (h0 : ra_MOK l X mi_V_fitsInHouse c0) (F : ra_Fx X p rm_V_findHousesFault s m args c prog_10_method_7_code 2 cn_V) (hr : meth.sig.returnType = (some .int)) (hlk : meth.locks = false) {I : Nat → ra_K} (hI : ∀ t ∈ [2], ra_At X p l e rm_V_findHousesFault s m args below meth c 2 (MQ below (ra_Qc X Z) args s 0 0 (ra_A X)) (I t) t) : ra_At X p l e rm_V_findHousesFault s m args below meth c 2 (MQ below (ra_Qc X Z) args s 0 0 (ra_A X)) (b_V_findHousesFault_2 c0 I Z) 2 :=
  r_iload_n F d_V_findHousesFault_2 rfl <| r_aload_n F d_V_findHousesFault_3 rfl <| r_getR F cg_V (j := 0) (by decide) rfl fl_V_14 d_V_findHousesFault_4 <| r_getI F cg_T (j := 2) (by decide) rfl fl_V_49 d_V_findHousesFault_7 <| r_icmp_ge F d_V_findHousesFault_10 (by decide) (o_V_findHousesFault_37 h0 F hr hlk hI) (o_V_findHousesFault_13 h0 F hr hlk hI)
theorem o_V_findHousesFault_0 {X : ra_X} {p : Program} {l : Launch} {e : Env} {s : State} {m : MethodId} {args : Array Value} {below : List Frame} {meth : Method} {c : Code} {Z : ra_R} {c0 : ra_Sp}  (h0 : ra_MOK l X mi_V_fitsInHouse c0) (F : ra_Fx X p rm_V_findHousesFault s m args c prog_10_method_7_code 2 cn_V) (hr : meth.sig.returnType = (some .int)) (hlk : meth.locks = false) {I : Nat → ra_K} (hI : ∀ t ∈ [2], ra_At X p l e rm_V_findHousesFault s m args below meth c 2 (MQ below (ra_Qc X Z) args s 0 0 (ra_A X)) (I t) t) : ra_At X p l e rm_V_findHousesFault s m args below meth c 2 (MQ below (ra_Qc X Z) args s 0 0 (ra_A X)) (b_V_findHousesFault_0 c0 I Z) 0 :=
  r_iconst F d_V_findHousesFault_0 (by decide) <| r_istore_n F d_V_findHousesFault_1 rfl (by decide) <| (hI 2 (by decide))
theorem g_V_findHousesFault {l : Launch} {X : ra_X} {c0 : ra_Sp}  (h0 : ra_MOK l X mi_V_fitsInHouse c0) (sp : ra_Sp) (I : ra_R → List Value → ra_St → Nat → ra_M → ra_K) (ve : ∀ as σ Z, ra_c1 as = true → as.length = 1 → sp as σ Z → b_V_findHousesFault_0 c0 (ra_I (I Z as σ)) Z (ra_pad 2 as) [] σ) (v2 : ∀ as σ Z, sp as σ Z → ∀ μ L S σ1, I Z as σ 2 μ L S σ1 → b_V_findHousesFault_2 c0 (ra_J (I Z as σ) μ) Z L S σ1) : ra_MOK l X mi_V_findHousesFault sp := by
  refine ra_enter (k := fun Z as σ => b_V_findHousesFault_0 c0 (ra_I (I Z as σ)) Z) cn_V rfl (by decide +kernel) ⟨by decide +kernel, by decide +kernel⟩ (by decide +kernel) ?_ ve
  intro p e s m args below meth c Z as σ hsp F hr hlk
  refine o_V_findHousesFault_0 h0 F hr hlk (ra_cuts (b := fun t J => if t = 2 then b_V_findHousesFault_2 c0 J Z else fun _ _ _ => False) ?_ ?_)
  · intro t ht J hJ
    simp only [List.mem_cons, List.not_mem_nil, or_false] at ht
    rcases ht with rfl
    · exact o_V_findHousesFault_2 h0 F hr hlk hJ
  · intro t ht μ L S σ1 hI
    simp only [List.mem_cons, List.not_mem_nil, or_false] at ht
    rcases ht with rfl
    · exact v2 as σ Z hsp μ L S σ1 hI

theorem d_T_figureAt_0 : decode prog_9_method_3_code 0 = .ok (.aload_n 0, 1) := by decide +kernel
theorem d_T_figureAt_1 : decode prog_9_method_3_code 1 = .ok (.getfield 9, 3) := by decide +kernel
theorem d_T_figureAt_4 : decode prog_9_method_3_code 4 = .ok (.iload_n 1, 1) := by decide +kernel
theorem d_T_figureAt_5 : decode prog_9_method_3_code 5 = .ok (.iaload, 1) := by decide +kernel
theorem d_T_figureAt_6 : decode prog_9_method_3_code 6 = .ok (.bipush 48, 2) := by decide +kernel
theorem d_T_figureAt_8 : decode prog_9_method_3_code 8 = .ok (.isub, 1) := by decide +kernel
theorem d_T_figureAt_9 : decode prog_9_method_3_code 9 = .ok (.ireturn, 1) := by decide +kernel
def b_T_figureAt_0 (Z : ra_R) : ra_K := w_al 0 <| w_gr 2 0 <| w_il 1 <| w_ald <| w_c 48 <| w_i2 (fun x y => x - y) <| w_ir Z
theorem o_T_figureAt_0 {X : ra_X} {p : Program} {l : Launch} {e : Env} {s : State} {m : MethodId} {args : Array Value} {below : List Frame} {meth : Method} {c : Code} {Z : ra_R}  (F : ra_Fx X p rm_T_figureAt s m args c prog_9_method_3_code 2 cn_T) (hr : meth.sig.returnType = (some .int)) (hlk : meth.locks = false) : ra_At X p l e rm_T_figureAt s m args below meth c 2 (MQ below (ra_Qc X Z) args s 0 0 (ra_A X)) (b_T_figureAt_0 Z) 0 :=
  r_aload_n F d_T_figureAt_0 rfl <| r_getR F cg_T (j := 0) (by decide) rfl fl_T_9 d_T_figureAt_1 <| r_iload_n F d_T_figureAt_4 rfl <| r_iaload F d_T_figureAt_5 <| r_bipush F d_T_figureAt_6 (by decide) <| r_isub F d_T_figureAt_8 <| r_ireturn F hr hlk d_T_figureAt_9
theorem g_T_figureAt {l : Launch} {X : ra_X}  (sp : ra_Sp) (ve : ∀ as σ Z, ra_c1 as = true → as.length = 2 → sp as σ Z → b_T_figureAt_0 Z (ra_pad 2 as) [] σ) : ra_MOK l X mi_T_figureAt sp := by
  refine ra_enter (k := fun Z as σ => b_T_figureAt_0 Z) cn_T rfl (by decide +kernel) ⟨by decide +kernel, by decide +kernel⟩ (by decide +kernel) ?_ ve
  intro p e s m args below meth c Z as σ hsp F hr hlk
  exact o_T_figureAt_0 F hr hlk

theorem d_V_readHouses_0 : decode prog_10_method_10_code 0 = .ok (.aload_n 0, 1) := by decide +kernel
theorem d_V_readHouses_1 : decode prog_10_method_10_code 1 = .ok (.aload_n 0, 1) := by decide +kernel
theorem d_V_readHouses_2 : decode prog_10_method_10_code 2 = .ok (.getfield 42, 3) := by decide +kernel
theorem d_V_readHouses_5 : decode prog_10_method_10_code 5 = .ok (.iconst (-1), 1) := by decide +kernel
theorem d_V_readHouses_6 : decode prog_10_method_10_code 6 = .ok (.if_icmp .ne 17, 3) := by decide +kernel
theorem d_V_readHouses_9 : decode prog_10_method_10_code 9 = .ok (.aload_n 0, 1) := by decide +kernel
theorem d_V_readHouses_10 : decode prog_10_method_10_code 10 = .ok (.getfield 14, 3) := by decide +kernel
theorem d_V_readHouses_13 : decode prog_10_method_10_code 13 = .ok (.getfield 49, 3) := by decide +kernel
theorem d_V_readHouses_16 : decode prog_10_method_10_code 16 = .ok (.iconst 1, 1) := by decide +kernel
theorem d_V_readHouses_17 : decode prog_10_method_10_code 17 = .ok (.iadd, 1) := by decide +kernel
theorem d_V_readHouses_18 : decode prog_10_method_10_code 18 = .ok (.iconst 4, 1) := by decide +kernel
theorem d_V_readHouses_19 : decode prog_10_method_10_code 19 = .ok (.idiv, 1) := by decide +kernel
theorem d_V_readHouses_20 : decode prog_10_method_10_code 20 = .ok (.goto 4, 3) := by decide +kernel
theorem d_V_readHouses_23 : decode prog_10_method_10_code 23 = .ok (.iconst 0, 1) := by decide +kernel
theorem d_V_readHouses_24 : decode prog_10_method_10_code 24 = .ok (.putfield 61, 3) := by decide +kernel
theorem d_V_readHouses_27 : decode prog_10_method_10_code 27 = .ok (.iconst 0, 1) := by decide +kernel
theorem d_V_readHouses_28 : decode prog_10_method_10_code 28 = .ok (.istore_n 1, 1) := by decide +kernel
theorem d_V_readHouses_29 : decode prog_10_method_10_code 29 = .ok (.iload_n 1, 1) := by decide +kernel
theorem d_V_readHouses_30 : decode prog_10_method_10_code 30 = .ok (.aload_n 0, 1) := by decide +kernel
theorem d_V_readHouses_31 : decode prog_10_method_10_code 31 = .ok (.getfield 61, 3) := by decide +kernel
theorem d_V_readHouses_34 : decode prog_10_method_10_code 34 = .ok (.if_icmp .ge 58, 3) := by decide +kernel
theorem d_V_readHouses_37 : decode prog_10_method_10_code 37 = .ok (.aload_n 0, 1) := by decide +kernel
theorem d_V_readHouses_38 : decode prog_10_method_10_code 38 = .ok (.getfield 23, 3) := by decide +kernel
theorem d_V_readHouses_41 : decode prog_10_method_10_code 41 = .ok (.iload_n 1, 1) := by decide +kernel
theorem d_V_readHouses_42 : decode prog_10_method_10_code 42 = .ok (.aload_n 0, 1) := by decide +kernel
theorem d_V_readHouses_43 : decode prog_10_method_10_code 43 = .ok (.getfield 14, 3) := by decide +kernel
theorem d_V_readHouses_46 : decode prog_10_method_10_code 46 = .ok (.iconst 4, 1) := by decide +kernel
theorem d_V_readHouses_47 : decode prog_10_method_10_code 47 = .ok (.iload_n 1, 1) := by decide +kernel
theorem d_V_readHouses_48 : decode prog_10_method_10_code 48 = .ok (.imul, 1) := by decide +kernel
theorem d_V_readHouses_49 : decode prog_10_method_10_code 49 = .ok (.invokevirtual 101, 3) := by decide +kernel
theorem d_V_readHouses_52 : decode prog_10_method_10_code 52 = .ok (.iastore, 1) := by decide +kernel
theorem d_V_readHouses_53 : decode prog_10_method_10_code 53 = .ok (.aload_n 0, 1) := by decide +kernel
theorem d_V_readHouses_54 : decode prog_10_method_10_code 54 = .ok (.getfield 27, 3) := by decide +kernel
theorem d_V_readHouses_57 : decode prog_10_method_10_code 57 = .ok (.iload_n 1, 1) := by decide +kernel
theorem d_V_readHouses_58 : decode prog_10_method_10_code 58 = .ok (.aload_n 0, 1) := by decide +kernel
theorem d_V_readHouses_59 : decode prog_10_method_10_code 59 = .ok (.getfield 14, 3) := by decide +kernel
theorem d_V_readHouses_62 : decode prog_10_method_10_code 62 = .ok (.iconst 4, 1) := by decide +kernel
theorem d_V_readHouses_63 : decode prog_10_method_10_code 63 = .ok (.iload_n 1, 1) := by decide +kernel
theorem d_V_readHouses_64 : decode prog_10_method_10_code 64 = .ok (.imul, 1) := by decide +kernel
theorem d_V_readHouses_65 : decode prog_10_method_10_code 65 = .ok (.iconst 1, 1) := by decide +kernel
theorem d_V_readHouses_66 : decode prog_10_method_10_code 66 = .ok (.iadd, 1) := by decide +kernel
theorem d_V_readHouses_67 : decode prog_10_method_10_code 67 = .ok (.invokevirtual 101, 3) := by decide +kernel
theorem d_V_readHouses_70 : decode prog_10_method_10_code 70 = .ok (.iastore, 1) := by decide +kernel
theorem d_V_readHouses_71 : decode prog_10_method_10_code 71 = .ok (.aload_n 0, 1) := by decide +kernel
theorem d_V_readHouses_72 : decode prog_10_method_10_code 72 = .ok (.getfield 30, 3) := by decide +kernel
theorem d_V_readHouses_75 : decode prog_10_method_10_code 75 = .ok (.iload_n 1, 1) := by decide +kernel
theorem d_V_readHouses_76 : decode prog_10_method_10_code 76 = .ok (.aload_n 0, 1) := by decide +kernel
theorem d_V_readHouses_77 : decode prog_10_method_10_code 77 = .ok (.iconst 4, 1) := by decide +kernel
theorem d_V_readHouses_78 : decode prog_10_method_10_code 78 = .ok (.iload_n 1, 1) := by decide +kernel
theorem d_V_readHouses_79 : decode prog_10_method_10_code 79 = .ok (.imul, 1) := by decide +kernel
theorem d_V_readHouses_80 : decode prog_10_method_10_code 80 = .ok (.iconst 2, 1) := by decide +kernel
theorem d_V_readHouses_81 : decode prog_10_method_10_code 81 = .ok (.iadd, 1) := by decide +kernel
theorem d_V_readHouses_82 : decode prog_10_method_10_code 82 = .ok (.invokevirtual 87, 3) := by decide +kernel
theorem d_V_readHouses_85 : decode prog_10_method_10_code 85 = .ok (.iastore, 1) := by decide +kernel
theorem d_V_readHouses_86 : decode prog_10_method_10_code 86 = .ok (.iinc 1 1, 3) := by decide +kernel
theorem d_V_readHouses_89 : decode prog_10_method_10_code 89 = .ok (.goto (-60), 3) := by decide +kernel
theorem d_V_readHouses_92 : decode prog_10_method_10_code 92 = .ok (.return_, 1) := by decide +kernel
def b_V_readHouses_92 (c0 c1 : ra_Sp) (I : Nat → ra_K) (Z : ra_R) : ra_K := w_vr Z
def b_V_readHouses_37 (c0 c1 : ra_Sp) (I : Nat → ra_K) (Z : ra_R) : ra_K := w_al 0 <| w_gr 1 2 <| w_il 1 <| w_al 0 <| w_gr 1 0 <| w_c 4 <| w_il 1 <| w_i2 (fun x y => x * y) <| w_cv c0 2 2 <| w_ast <| w_al 0 <| w_gr 1 3 <| w_il 1 <| w_al 0 <| w_gr 1 0 <| w_c 4 <| w_il 1 <| w_i2 (fun x y => x * y) <| w_c 1 <| w_i2 (fun x y => x + y) <| w_cv c0 2 2 <| w_ast <| w_al 0 <| w_gr 1 4 <| w_il 1 <| w_al 0 <| w_c 4 <| w_il 1 <| w_i2 (fun x y => x * y) <| w_c 2 <| w_i2 (fun x y => x + y) <| w_cv c1 2 1 <| w_ast <| w_inc 1 1 <| (I 29)
def b_V_readHouses_29 (c0 c1 : ra_Sp) (I : Nat → ra_K) (Z : ra_R) : ra_K := w_il 1 <| w_al 0 <| w_gi 1 8 <| w_b2 (fun x y => y ≤ x) (b_V_readHouses_92 c0 c1 I Z) (b_V_readHouses_37 c0 c1 I Z)
def b_V_readHouses_24 (c0 c1 : ra_Sp) (I : Nat → ra_K) (Z : ra_R) : ra_K := w_pi 1 8 <| w_c 0 <| w_is 1 <| (I 29)
def b_V_readHouses_23 (c0 c1 : ra_Sp) (I : Nat → ra_K) (Z : ra_R) : ra_K := w_c 0 <| (b_V_readHouses_24 c0 c1 I Z)
def b_V_readHouses_9 (c0 c1 : ra_Sp) (I : Nat → ra_K) (Z : ra_R) : ra_K := w_al 0 <| w_gr 1 0 <| w_gi 2 2 <| w_c 1 <| w_i2 (fun x y => x + y) <| w_c 4 <| w_dv (fun x y => x / y) <| (b_V_readHouses_24 c0 c1 I Z)
def b_V_readHouses_0 (c0 c1 : ra_Sp) (I : Nat → ra_K) (Z : ra_R) : ra_K := w_al 0 <| w_al 0 <| w_gi 1 9 <| w_c (-1) <| w_b2 (fun x y => x = y) (b_V_readHouses_9 c0 c1 I Z) (b_V_readHouses_23 c0 c1 I Z)
theorem o_V_readHouses_92 {X : ra_X} {p : Program} {l : Launch} {e : Env} {s : State} {m : MethodId} {args : Array Value} {below : List Frame} {meth : Method} {c : Code} {Z : ra_R} {c0 c1 : ra_Sp}  (h0 : ra_MOK l X mi_T_figureAt c0) (h1 : ra_MOK l X mi_V_temperAt c1) (F : ra_Fx X p rm_V_readHouses s m args c prog_10_method_10_code 2 cn_V) (hr : meth.sig.returnType = none) (hlk : meth.locks = false) {I : Nat → ra_K} (hI : ∀ t ∈ [29], ra_At X p l e rm_V_readHouses s m args below meth c 2 (MQ below (ra_Qc X Z) args s 0 0 (ra_A X)) (I t) t) : ra_At X p l e rm_V_readHouses s m args below meth c 2 (MQ below (ra_Qc X Z) args s 0 0 (ra_A X)) (b_V_readHouses_92 c0 c1 I Z) 92 :=
  r_return F hr hlk d_V_readHouses_92
theorem o_V_readHouses_37 {X : ra_X} {p : Program} {l : Launch} {e : Env} {s : State} {m : MethodId} {args : Array Value} {below : List Frame} {meth : Method} {c : Code} {Z : ra_R} {c0 c1 : ra_Sp}  (h0 : ra_MOK l X mi_T_figureAt c0) (h1 : ra_MOK l X mi_V_temperAt c1) (F : ra_Fx X p rm_V_readHouses s m args c prog_10_method_10_code 2 cn_V) (hr : meth.sig.returnType = none) (hlk : meth.locks = false) {I : Nat → ra_K} (hI : ∀ t ∈ [29], ra_At X p l e rm_V_readHouses s m args below meth c 2 (MQ below (ra_Qc X Z) args s 0 0 (ra_A X)) (I t) t) : ra_At X p l e rm_V_readHouses s m args below meth c 2 (MQ below (ra_Qc X Z) args s 0 0 (ra_A X)) (b_V_readHouses_37 c0 c1 I Z) 37 :=
  r_aload_n F d_V_readHouses_37 rfl <| r_getR F cg_V (j := 2) (by decide) rfl fl_V_23 d_V_readHouses_38 <| r_iload_n F d_V_readHouses_41 rfl <| r_aload_n F d_V_readHouses_42 rfl <| r_getR F cg_V (j := 0) (by decide) rfl fl_V_14 d_V_readHouses_43 <| r_iconst F d_V_readHouses_46 (by decide) <| r_iload_n F d_V_readHouses_47 rfl <| r_imul F d_V_readHouses_48 <| r_callV F h0 (co_T_figureAt (by decide +kernel) (by decide +kernel)) ⟨rfl, by decide +kernel⟩ ⟨rfl, by decide⟩ ml_V_101 im_T_figureAt se_T_figureAt d_V_readHouses_49 <| r_iastore F d_V_readHouses_52 <| r_aload_n F d_V_readHouses_53 rfl <| r_getR F cg_V (j := 3) (by decide) rfl fl_V_27 d_V_readHouses_54 <| r_iload_n F d_V_readHouses_57 rfl <| r_aload_n F d_V_readHouses_58 rfl <| r_getR F cg_V (j := 0) (by decide) rfl fl_V_14 d_V_readHouses_59 <| r_iconst F d_V_readHouses_62 (by decide) <| r_iload_n F d_V_readHouses_63 rfl <| r_imul F d_V_readHouses_64 <| r_iconst F d_V_readHouses_65 (by decide) <| r_iadd F d_V_readHouses_66 <| r_callV F h0 (co_T_figureAt (by decide +kernel) (by decide +kernel)) ⟨rfl, by decide +kernel⟩ ⟨rfl, by decide⟩ ml_V_101 im_T_figureAt se_T_figureAt d_V_readHouses_67 <| r_iastore F d_V_readHouses_70 <| r_aload_n F d_V_readHouses_71 rfl <| r_getR F cg_V (j := 4) (by decide) rfl fl_V_30 d_V_readHouses_72 <| r_iload_n F d_V_readHouses_75 rfl <| r_aload_n F d_V_readHouses_76 rfl <| r_iconst F d_V_readHouses_77 (by decide) <| r_iload_n F d_V_readHouses_78 rfl <| r_imul F d_V_readHouses_79 <| r_iconst F d_V_readHouses_80 (by decide) <| r_iadd F d_V_readHouses_81 <| r_callV F h1 (co_V_temperAt (by decide +kernel) (by decide +kernel)) ⟨rfl, by decide +kernel⟩ ⟨rfl, by decide⟩ ml_V_87 im_V_temperAt se_V_temperAt d_V_readHouses_82 <| r_iastore F d_V_readHouses_85 <| r_iinc F d_V_readHouses_86 (by decide) (by decide) <| r_goto F d_V_readHouses_89 (by decide) (hI 29 (by decide))
theorem o_V_readHouses_29 {X : ra_X} {p : Program} {l : Launch} {e : Env} {s : State} {m : MethodId} {args : Array Value} {below : List Frame} {meth : Method} {c : Code} {Z : ra_R} {c0 c1 : ra_Sp}  (h0 : ra_MOK l X mi_T_figureAt c0) (h1 : ra_MOK l X mi_V_temperAt c1) (F : ra_Fx X p rm_V_readHouses s m args c prog_10_method_10_code 2 cn_V) (hr : meth.sig.returnType = none) (hlk : meth.locks = false) {I : Nat → ra_K} (hI : ∀ t ∈ [29], ra_At X p l e rm_V_readHouses s m args below meth c 2 (MQ below (ra_Qc X Z) args s 0 0 (ra_A X)) (I t) t) : ra_At X p l e rm_V_readHouses s m args below meth c 2 (MQ below (ra_Qc X Z) args s 0 0 (ra_A X)) (b_V_readHouses_29 c0 c1 I Z) 29 :=
  r_iload_n F d_V_readHouses_29 rfl <| r_aload_n F d_V_readHouses_30 rfl <| r_getI F cg_V (j := 8) (by decide) rfl fl_V_61 d_V_readHouses_31 <| r_icmp_ge F d_V_readHouses_34 (by decide) (o_V_readHouses_92 h0 h1 F hr hlk hI) (o_V_readHouses_37 h0 h1 F hr hlk hI)
theorem o_V_readHouses_24 {X : ra_X} {p : Program} {l : Launch} {e : Env} {s : State} {m : MethodId} {args : Array Value} {below : List Frame} {meth : Method} {c : Code} {Z : ra_R} {c0 c1 : ra_Sp}  (h0 : ra_MOK l X mi_T_figureAt c0) (h1 : ra_MOK l X mi_V_temperAt c1) (F : ra_Fx X p rm_V_readHouses s m args c prog_10_method_10_code 2 cn_V) (hr : meth.sig.returnType = none) (hlk : meth.locks = false) {I : Nat → ra_K} (hI : ∀ t ∈ [29], ra_At X p l e rm_V_readHouses s m args below meth c 2 (MQ below (ra_Qc X Z) args s 0 0 (ra_A X)) (I t) t) : ra_At X p l e rm_V_readHouses s m args below meth c 2 (MQ below (ra_Qc X Z) args s 0 0 (ra_A X)) (b_V_readHouses_24 c0 c1 I Z) 24 :=
  r_putI F cg_V (j := 8) (by decide) rfl rfl rfl fl_V_61 d_V_readHouses_24 <| r_iconst F d_V_readHouses_27 (by decide) <| r_istore_n F d_V_readHouses_28 rfl (by decide) <| (hI 29 (by decide))
theorem o_V_readHouses_23 {X : ra_X} {p : Program} {l : Launch} {e : Env} {s : State} {m : MethodId} {args : Array Value} {below : List Frame} {meth : Method} {c : Code} {Z : ra_R} {c0 c1 : ra_Sp}  (h0 : ra_MOK l X mi_T_figureAt c0) (h1 : ra_MOK l X mi_V_temperAt c1) (F : ra_Fx X p rm_V_readHouses s m args c prog_10_method_10_code 2 cn_V) (hr : meth.sig.returnType = none) (hlk : meth.locks = false) {I : Nat → ra_K} (hI : ∀ t ∈ [29], ra_At X p l e rm_V_readHouses s m args below meth c 2 (MQ below (ra_Qc X Z) args s 0 0 (ra_A X)) (I t) t) : ra_At X p l e rm_V_readHouses s m args below meth c 2 (MQ below (ra_Qc X Z) args s 0 0 (ra_A X)) (b_V_readHouses_23 c0 c1 I Z) 23 :=
  r_iconst F d_V_readHouses_23 (by decide) <| (o_V_readHouses_24 h0 h1 F hr hlk hI)
theorem o_V_readHouses_9 {X : ra_X} {p : Program} {l : Launch} {e : Env} {s : State} {m : MethodId} {args : Array Value} {below : List Frame} {meth : Method} {c : Code} {Z : ra_R} {c0 c1 : ra_Sp}  (h0 : ra_MOK l X mi_T_figureAt c0) (h1 : ra_MOK l X mi_V_temperAt c1) (F : ra_Fx X p rm_V_readHouses s m args c prog_10_method_10_code 2 cn_V) (hr : meth.sig.returnType = none) (hlk : meth.locks = false) {I : Nat → ra_K} (hI : ∀ t ∈ [29], ra_At X p l e rm_V_readHouses s m args below meth c 2 (MQ below (ra_Qc X Z) args s 0 0 (ra_A X)) (I t) t) : ra_At X p l e rm_V_readHouses s m args below meth c 2 (MQ below (ra_Qc X Z) args s 0 0 (ra_A X)) (b_V_readHouses_9 c0 c1 I Z) 9 :=
  r_aload_n F d_V_readHouses_9 rfl <| r_getR F cg_V (j := 0) (by decide) rfl fl_V_14 d_V_readHouses_10 <| r_getI F cg_T (j := 2) (by decide) rfl fl_V_49 d_V_readHouses_13 <| r_iconst F d_V_readHouses_16 (by decide) <| r_iadd F d_V_readHouses_17 <| r_iconst F d_V_readHouses_18 (by decide) <| r_idiv F d_V_readHouses_19 <| r_goto F d_V_readHouses_20 (by decide) (o_V_readHouses_24 h0 h1 F hr hlk hI)
theorem o_V_readHouses_0 {X : ra_X} {p : Program} {l : Launch} {e : Env} {s : State} {m : MethodId} {args : Array Value} {below : List Frame} {meth : Method} {c : Code} {Z : ra_R} {c0 c1 : ra_Sp}  (h0 : ra_MOK l X mi_T_figureAt c0) (h1 : ra_MOK l X mi_V_temperAt c1) (F : ra_Fx X p rm_V_readHouses s m args c prog_10_method_10_code 2 cn_V) (hr : meth.sig.returnType = none) (hlk : meth.locks = false) {I : Nat → ra_K} (hI : ∀ t ∈ [29], ra_At X p l e rm_V_readHouses s m args below meth c 2 (MQ below (ra_Qc X Z) args s 0 0 (ra_A X)) (I t) t) : ra_At X p l e rm_V_readHouses s m args below meth c 2 (MQ below (ra_Qc X Z) args s 0 0 (ra_A X)) (b_V_readHouses_0 c0 c1 I Z) 0 :=
  r_aload_n F d_V_readHouses_0 rfl <| r_aload_n F d_V_readHouses_1 rfl <| r_getI F cg_V (j := 9) (by decide) rfl fl_V_42 d_V_readHouses_2 <| r_iconst F d_V_readHouses_5 (by decide) <| r_icmp_ne F d_V_readHouses_6 (by decide) (o_V_readHouses_23 h0 h1 F hr hlk hI) (o_V_readHouses_9 h0 h1 F hr hlk hI)
theorem g_V_readHouses {l : Launch} {X : ra_X} {c0 c1 : ra_Sp}  (h0 : ra_MOK l X mi_T_figureAt c0) (h1 : ra_MOK l X mi_V_temperAt c1) (sp : ra_Sp) (I : ra_R → List Value → ra_St → Nat → ra_M → ra_K) (ve : ∀ as σ Z, ra_c1 as = true → as.length = 1 → sp as σ Z → b_V_readHouses_0 c0 c1 (ra_I (I Z as σ)) Z (ra_pad 2 as) [] σ) (v29 : ∀ as σ Z, sp as σ Z → ∀ μ L S σ1, I Z as σ 29 μ L S σ1 → b_V_readHouses_29 c0 c1 (ra_J (I Z as σ) μ) Z L S σ1) : ra_MOK l X mi_V_readHouses sp := by
  refine ra_enter (k := fun Z as σ => b_V_readHouses_0 c0 c1 (ra_I (I Z as σ)) Z) cn_V rfl (by decide +kernel) ⟨by decide +kernel, by decide +kernel⟩ (by decide +kernel) ?_ ve
  intro p e s m args below meth c Z as σ hsp F hr hlk
  refine o_V_readHouses_0 h0 h1 F hr hlk (ra_cuts (b := fun t J => if t = 29 then b_V_readHouses_29 c0 c1 J Z else fun _ _ _ => False) ?_ ?_)
  · intro t ht J hJ
    simp only [List.mem_cons, List.not_mem_nil, or_false] at ht
    rcases ht with rfl
    · exact o_V_readHouses_29 h0 h1 F hr hlk hJ
  · intro t ht μ L S σ1 hI
    simp only [List.mem_cons, List.not_mem_nil, or_false] at ht
    rcases ht with rfl
    · exact v29 as σ Z hsp μ L S σ1 hI

theorem d_R_has_0 : decode prog_1_method_43_code 0 = .ok (.iload_n 0, 1) := by decide +kernel
theorem d_R_has_1 : decode prog_1_method_43_code 1 = .ok (.iload_n 1, 1) := by decide +kernel
theorem d_R_has_2 : decode prog_1_method_43_code 2 = .ok (.ishr, 1) := by decide +kernel
theorem d_R_has_3 : decode prog_1_method_43_code 3 = .ok (.iconst 1, 1) := by decide +kernel
theorem d_R_has_4 : decode prog_1_method_43_code 4 = .ok (.iand, 1) := by decide +kernel
theorem d_R_has_5 : decode prog_1_method_43_code 5 = .ok (.iconst 1, 1) := by decide +kernel
theorem d_R_has_6 : decode prog_1_method_43_code 6 = .ok (.if_icmp .ne 7, 3) := by decide +kernel
theorem d_R_has_9 : decode prog_1_method_43_code 9 = .ok (.iconst 1, 1) := by decide +kernel
theorem d_R_has_10 : decode prog_1_method_43_code 10 = .ok (.goto 4, 3) := by decide +kernel
theorem d_R_has_13 : decode prog_1_method_43_code 13 = .ok (.iconst 0, 1) := by decide +kernel
theorem d_R_has_14 : decode prog_1_method_43_code 14 = .ok (.ireturn, 1) := by decide +kernel
def b_R_has_14 (Z : ra_R) : ra_K := w_zr Z
def b_R_has_13 (Z : ra_R) : ra_K := w_c 0 <| (b_R_has_14 Z)
def b_R_has_9 (Z : ra_R) : ra_K := w_c 1 <| (b_R_has_14 Z)
def b_R_has_0 (Z : ra_R) : ra_K := w_il 0 <| w_il 1 <| w_i2 (fun x y => x >>> (y &&& 31)) <| w_c 1 <| w_i2 (fun x y => x &&& y) <| w_c 1 <| w_b2 (fun x y => x = y) (b_R_has_9 Z) (b_R_has_13 Z)
theorem o_R_has_14 {X : ra_X} {p : Program} {l : Launch} {e : Env} {s : State} {m : MethodId} {args : Array Value} {below : List Frame} {meth : Method} {c : Code} {Z : ra_R}  (F : ra_Fx X p rm_R_has s m args c prog_1_method_43_code 2 cn_R) (hr : meth.sig.returnType = (some .boolean)) (hlk : meth.locks = false) : ra_At X p l e rm_R_has s m args below meth c 2 (MQ below (ra_Qc X Z) args s 0 0 (ra_A X)) (b_R_has_14 Z) 14 :=
  r_zreturn F hr hlk d_R_has_14
theorem o_R_has_13 {X : ra_X} {p : Program} {l : Launch} {e : Env} {s : State} {m : MethodId} {args : Array Value} {below : List Frame} {meth : Method} {c : Code} {Z : ra_R}  (F : ra_Fx X p rm_R_has s m args c prog_1_method_43_code 2 cn_R) (hr : meth.sig.returnType = (some .boolean)) (hlk : meth.locks = false) : ra_At X p l e rm_R_has s m args below meth c 2 (MQ below (ra_Qc X Z) args s 0 0 (ra_A X)) (b_R_has_13 Z) 13 :=
  r_iconst F d_R_has_13 (by decide) <| (o_R_has_14 F hr hlk)
theorem o_R_has_9 {X : ra_X} {p : Program} {l : Launch} {e : Env} {s : State} {m : MethodId} {args : Array Value} {below : List Frame} {meth : Method} {c : Code} {Z : ra_R}  (F : ra_Fx X p rm_R_has s m args c prog_1_method_43_code 2 cn_R) (hr : meth.sig.returnType = (some .boolean)) (hlk : meth.locks = false) : ra_At X p l e rm_R_has s m args below meth c 2 (MQ below (ra_Qc X Z) args s 0 0 (ra_A X)) (b_R_has_9 Z) 9 :=
  r_iconst F d_R_has_9 (by decide) <| r_goto F d_R_has_10 (by decide) (o_R_has_14 F hr hlk)
theorem o_R_has_0 {X : ra_X} {p : Program} {l : Launch} {e : Env} {s : State} {m : MethodId} {args : Array Value} {below : List Frame} {meth : Method} {c : Code} {Z : ra_R}  (F : ra_Fx X p rm_R_has s m args c prog_1_method_43_code 2 cn_R) (hr : meth.sig.returnType = (some .boolean)) (hlk : meth.locks = false) : ra_At X p l e rm_R_has s m args below meth c 2 (MQ below (ra_Qc X Z) args s 0 0 (ra_A X)) (b_R_has_0 Z) 0 :=
  r_iload_n F d_R_has_0 rfl <| r_iload_n F d_R_has_1 rfl <| r_ishr F d_R_has_2 <| r_iconst F d_R_has_3 (by decide) <| r_iand F d_R_has_4 <| r_iconst F d_R_has_5 (by decide) <| r_icmp_ne F d_R_has_6 (by decide) (o_R_has_13 F hr hlk) (o_R_has_9 F hr hlk)
theorem g_R_has {l : Launch} {X : ra_X}  (sp : ra_Sp) (ve : ∀ as σ Z, ra_c1 as = true → as.length = 2 → sp as σ Z → b_R_has_0 Z (ra_pad 2 as) [] σ) : ra_MOK l X mi_R_has sp := by
  refine ra_enter (k := fun Z as σ => b_R_has_0 Z) cn_R rfl (by decide +kernel) ⟨by decide +kernel, by decide +kernel⟩ (by decide +kernel) ?_ ve
  intro p e s m args below meth c Z as σ hsp F hr hlk
  exact o_R_has_0 F hr hlk

theorem d_V_findLotsFault_0 : decode prog_10_method_11_code 0 = .ok (.iconst 0, 1) := by decide +kernel
theorem d_V_findLotsFault_1 : decode prog_10_method_11_code 1 = .ok (.istore_n 1, 1) := by decide +kernel
theorem d_V_findLotsFault_2 : decode prog_10_method_11_code 2 = .ok (.iconst 0, 1) := by decide +kernel
theorem d_V_findLotsFault_3 : decode prog_10_method_11_code 3 = .ok (.istore_n 2, 1) := by decide +kernel
theorem d_V_findLotsFault_4 : decode prog_10_method_11_code 4 = .ok (.iload_n 2, 1) := by decide +kernel
theorem d_V_findLotsFault_5 : decode prog_10_method_11_code 5 = .ok (.aload_n 0, 1) := by decide +kernel
theorem d_V_findLotsFault_6 : decode prog_10_method_11_code 6 = .ok (.getfield 20, 3) := by decide +kernel
theorem d_V_findLotsFault_9 : decode prog_10_method_11_code 9 = .ok (.getfield 49, 3) := by decide +kernel
theorem d_V_findLotsFault_12 : decode prog_10_method_11_code 12 = .ok (.if_icmp .ge 56, 3) := by decide +kernel
theorem d_V_findLotsFault_15 : decode prog_10_method_11_code 15 = .ok (.aload_n 0, 1) := by decide +kernel
theorem d_V_findLotsFault_16 : decode prog_10_method_11_code 16 = .ok (.getfield 20, 3) := by decide +kernel
theorem d_V_findLotsFault_19 : decode prog_10_method_11_code 19 = .ok (.iload_n 2, 1) := by decide +kernel
theorem d_V_findLotsFault_20 : decode prog_10_method_11_code 20 = .ok (.invokevirtual 101, 3) := by decide +kernel
theorem d_V_findLotsFault_23 : decode prog_10_method_11_code 23 = .ok (.istore_n 3, 1) := by decide +kernel
theorem d_V_findLotsFault_24 : decode prog_10_method_11_code 24 = .ok (.iload_n 2, 1) := by decide +kernel
theorem d_V_findLotsFault_25 : decode prog_10_method_11_code 25 = .ok (.aload_n 0, 1) := by decide +kernel
theorem d_V_findLotsFault_26 : decode prog_10_method_11_code 26 = .ok (.getfield 61, 3) := by decide +kernel
theorem d_V_findLotsFault_29 : decode prog_10_method_11_code 29 = .ok (.if_icmp .ge 25, 3) := by decide +kernel
theorem d_V_findLotsFault_32 : decode prog_10_method_11_code 32 = .ok (.iload_n 3, 1) := by decide +kernel
theorem d_V_findLotsFault_33 : decode prog_10_method_11_code 33 = .ok (.iconst 0, 1) := by decide +kernel
theorem d_V_findLotsFault_34 : decode prog_10_method_11_code 34 = .ok (.aload_n 0, 1) := by decide +kernel
theorem d_V_findLotsFault_35 : decode prog_10_method_11_code 35 = .ok (.getfield 61, 3) := by decide +kernel
theorem d_V_findLotsFault_38 : decode prog_10_method_11_code 38 = .ok (.iconst 1, 1) := by decide +kernel
theorem d_V_findLotsFault_39 : decode prog_10_method_11_code 39 = .ok (.isub, 1) := by decide +kernel
theorem d_V_findLotsFault_40 : decode prog_10_method_11_code 40 = .ok (.invokestatic 104, 3) := by decide +kernel
theorem d_V_findLotsFault_43 : decode prog_10_method_11_code 43 = .ok (.ifCond .ne 11, 3) := by decide +kernel
theorem d_V_findLotsFault_46 : decode prog_10_method_11_code 46 = .ok (.iload_n 1, 1) := by decide +kernel
theorem d_V_findLotsFault_47 : decode prog_10_method_11_code 47 = .ok (.iload_n 3, 1) := by decide +kernel
theorem d_V_findLotsFault_48 : decode prog_10_method_11_code 48 = .ok (.invokestatic 108, 3) := by decide +kernel
theorem d_V_findLotsFault_51 : decode prog_10_method_11_code 51 = .ok (.ifCond .eq 5, 3) := by decide +kernel
theorem d_V_findLotsFault_54 : decode prog_10_method_11_code 54 = .ok (.iload_n 2, 1) := by decide +kernel
theorem d_V_findLotsFault_55 : decode prog_10_method_11_code 55 = .ok (.ireturn, 1) := by decide +kernel
theorem d_V_findLotsFault_56 : decode prog_10_method_11_code 56 = .ok (.iload_n 1, 1) := by decide +kernel
theorem d_V_findLotsFault_57 : decode prog_10_method_11_code 57 = .ok (.iconst 1, 1) := by decide +kernel
theorem d_V_findLotsFault_58 : decode prog_10_method_11_code 58 = .ok (.iload_n 3, 1) := by decide +kernel
theorem d_V_findLotsFault_59 : decode prog_10_method_11_code 59 = .ok (.ishl, 1) := by decide +kernel
theorem d_V_findLotsFault_60 : decode prog_10_method_11_code 60 = .ok (.ior, 1) := by decide +kernel
theorem d_V_findLotsFault_61 : decode prog_10_method_11_code 61 = .ok (.istore_n 1, 1) := by decide +kernel
theorem d_V_findLotsFault_62 : decode prog_10_method_11_code 62 = .ok (.iinc 2 1, 3) := by decide +kernel
theorem d_V_findLotsFault_65 : decode prog_10_method_11_code 65 = .ok (.goto (-61), 3) := by decide +kernel
theorem d_V_findLotsFault_68 : decode prog_10_method_11_code 68 = .ok (.aload_n 0, 1) := by decide +kernel
theorem d_V_findLotsFault_69 : decode prog_10_method_11_code 69 = .ok (.getfield 20, 3) := by decide +kernel
theorem d_V_findLotsFault_72 : decode prog_10_method_11_code 72 = .ok (.getfield 49, 3) := by decide +kernel
theorem d_V_findLotsFault_75 : decode prog_10_method_11_code 75 = .ok (.aload_n 0, 1) := by decide +kernel
theorem d_V_findLotsFault_76 : decode prog_10_method_11_code 76 = .ok (.getfield 61, 3) := by decide +kernel
theorem d_V_findLotsFault_79 : decode prog_10_method_11_code 79 = .ok (.if_icmp .ge 13, 3) := by decide +kernel
theorem d_V_findLotsFault_82 : decode prog_10_method_11_code 82 = .ok (.aload_n 0, 1) := by decide +kernel
theorem d_V_findLotsFault_83 : decode prog_10_method_11_code 83 = .ok (.getfield 20, 3) := by decide +kernel
theorem d_V_findLotsFault_86 : decode prog_10_method_11_code 86 = .ok (.getfield 49, 3) := by decide +kernel
theorem d_V_findLotsFault_89 : decode prog_10_method_11_code 89 = .ok (.goto 4, 3) := by decide +kernel
theorem d_V_findLotsFault_92 : decode prog_10_method_11_code 92 = .ok (.iconst (-1), 1) := by decide +kernel
theorem d_V_findLotsFault_93 : decode prog_10_method_11_code 93 = .ok (.ireturn, 1) := by decide +kernel
def b_V_findLotsFault_93 (c0 c1 c2 : ra_Sp) (I : Nat → ra_K) (Z : ra_R) : ra_K := w_ir Z
def b_V_findLotsFault_92 (c0 c1 c2 : ra_Sp) (I : Nat → ra_K) (Z : ra_R) : ra_K := w_c (-1) <| (b_V_findLotsFault_93 c0 c1 c2 I Z)
def b_V_findLotsFault_82 (c0 c1 c2 : ra_Sp) (I : Nat → ra_K) (Z : ra_R) : ra_K := w_al 0 <| w_gr 1 1 <| w_gi 2 2 <| (b_V_findLotsFault_93 c0 c1 c2 I Z)
def b_V_findLotsFault_68 (c0 c1 c2 : ra_Sp) (I : Nat → ra_K) (Z : ra_R) : ra_K := w_al 0 <| w_gr 1 1 <| w_gi 2 2 <| w_al 0 <| w_gi 1 8 <| w_b2 (fun x y => y ≤ x) (b_V_findLotsFault_92 c0 c1 c2 I Z) (b_V_findLotsFault_82 c0 c1 c2 I Z)
def b_V_findLotsFault_56 (c0 c1 c2 : ra_Sp) (I : Nat → ra_K) (Z : ra_R) : ra_K := w_il 1 <| w_c 1 <| w_il 3 <| w_i2 (fun x y => x <<< (y &&& 31)) <| w_i2 (fun x y => x ||| y) <| w_is 1 <| w_inc 2 1 <| (I 4)
def b_V_findLotsFault_54 (c0 c1 c2 : ra_Sp) (I : Nat → ra_K) (Z : ra_R) : ra_K := w_il 2 <| w_ir Z
def b_V_findLotsFault_46 (c0 c1 c2 : ra_Sp) (I : Nat → ra_K) (Z : ra_R) : ra_K := w_il 1 <| w_il 3 <| w_cs c2 2 <| w_b1 (fun x => x = 0) (b_V_findLotsFault_56 c0 c1 c2 I Z) (b_V_findLotsFault_54 c0 c1 c2 I Z)
def b_V_findLotsFault_32 (c0 c1 c2 : ra_Sp) (I : Nat → ra_K) (Z : ra_R) : ra_K := w_il 3 <| w_c 0 <| w_al 0 <| w_gi 1 8 <| w_c 1 <| w_i2 (fun x y => x - y) <| w_cs c1 3 <| w_b1 (fun x => x = 0) (b_V_findLotsFault_46 c0 c1 c2 I Z) (b_V_findLotsFault_54 c0 c1 c2 I Z)
def b_V_findLotsFault_15 (c0 c1 c2 : ra_Sp) (I : Nat → ra_K) (Z : ra_R) : ra_K := w_al 0 <| w_gr 1 1 <| w_il 2 <| w_cv c0 2 2 <| w_is 3 <| w_il 2 <| w_al 0 <| w_gi 1 8 <| w_b2 (fun x y => y ≤ x) (b_V_findLotsFault_54 c0 c1 c2 I Z) (b_V_findLotsFault_32 c0 c1 c2 I Z)
def b_V_findLotsFault_4 (c0 c1 c2 : ra_Sp) (I : Nat → ra_K) (Z : ra_R) : ra_K := w_il 2 <| w_al 0 <| w_gr 1 1 <| w_gi 2 2 <| w_b2 (fun x y => y ≤ x) (b_V_findLotsFault_68 c0 c1 c2 I Z) (b_V_findLotsFault_15 c0 c1 c2 I Z)
def b_V_findLotsFault_0 (c0 c1 c2 : ra_Sp) (I : Nat → ra_K) (Z : ra_R) : ra_K := w_c 0 <| w_is 1 <| w_c 0 <| w_is 2 <| (I 4)
theorem o_V_findLotsFault_93 {X : ra_X} {p : Program} {l : Launch} {e : Env} {s : State} {m : MethodId} {args : Array Value} {below : List Frame} {meth : Method} {c : Code} {Z : ra_R} {c0 c1 c2 : ra_Sp}  (h0 : ra_MOK l X mi_T_figureAt c0) (h1 : ra_MOK l X mi_R_isOutside c1) (h2 : ra_MOK l X mi_R_has c2) (F : ra_Fx X p rm_V_findLotsFault s m args c prog_10_method_11_code 4 cn_V) (hr : meth.sig.returnType = (some .int)) (hlk : meth.locks = false) {I : Nat → ra_K} (hI : ∀ t ∈ [4], ra_At X p l e rm_V_findLotsFault s m args below meth c 4 (MQ below (ra_Qc X Z) args s 0 0 (ra_A X)) (I t) t) : ra_At X p l e rm_V_findLotsFault s m args below meth c 4 (MQ below (ra_Qc X Z) args s 0 0 (ra_A X)) (b_V_findLotsFault_93 c0 c1 c2 I Z) 93 :=
  r_ireturn F hr hlk d_V_findLotsFault_93
theorem o_V_findLotsFault_92 {X : ra_X} {p : Program} {l : Launch} {e : Env} {s : State} {m : MethodId} {args : Array Value} {below : List Frame} {meth : Method} {c : Code} {Z : ra_R} {c0 c1 c2 : ra_Sp}  (h0 : ra_MOK l X mi_T_figureAt c0) (h1 : ra_MOK l X mi_R_isOutside c1) (h2 : ra_MOK l X mi_R_has c2) (F : ra_Fx X p rm_V_findLotsFault s m args c prog_10_method_11_code 4 cn_V) (hr : meth.sig.returnType = (some .int)) (hlk : meth.locks = false) {I : Nat → ra_K} (hI : ∀ t ∈ [4], ra_At X p l e rm_V_findLotsFault s m args below meth c 4 (MQ below (ra_Qc X Z) args s 0 0 (ra_A X)) (I t) t) : ra_At X p l e rm_V_findLotsFault s m args below meth c 4 (MQ below (ra_Qc X Z) args s 0 0 (ra_A X)) (b_V_findLotsFault_92 c0 c1 c2 I Z) 92 :=
  r_iconst F d_V_findLotsFault_92 (by decide) <| (o_V_findLotsFault_93 h0 h1 h2 F hr hlk hI)
theorem o_V_findLotsFault_82 {X : ra_X} {p : Program} {l : Launch} {e : Env} {s : State} {m : MethodId} {args : Array Value} {below : List Frame} {meth : Method} {c : Code} {Z : ra_R} {c0 c1 c2 : ra_Sp}  (h0 : ra_MOK l X mi_T_figureAt c0) (h1 : ra_MOK l X mi_R_isOutside c1) (h2 : ra_MOK l X mi_R_has c2) (F : ra_Fx X p rm_V_findLotsFault s m args c prog_10_method_11_code 4 cn_V) (hr : meth.sig.returnType = (some .int)) (hlk : meth.locks = false) {I : Nat → ra_K} (hI : ∀ t ∈ [4], ra_At X p l e rm_V_findLotsFault s m args below meth c 4 (MQ below (ra_Qc X Z) args s 0 0 (ra_A X)) (I t) t) : ra_At X p l e rm_V_findLotsFault s m args below meth c 4 (MQ below (ra_Qc X Z) args s 0 0 (ra_A X)) (b_V_findLotsFault_82 c0 c1 c2 I Z) 82 :=
  r_aload_n F d_V_findLotsFault_82 rfl <| r_getR F cg_V (j := 1) (by decide) rfl fl_V_20 d_V_findLotsFault_83 <| r_getI F cg_T (j := 2) (by decide) rfl fl_V_49 d_V_findLotsFault_86 <| r_goto F d_V_findLotsFault_89 (by decide) (o_V_findLotsFault_93 h0 h1 h2 F hr hlk hI)
theorem o_V_findLotsFault_68 {X : ra_X} {p : Program} {l : Launch} {e : Env} {s : State} {m : MethodId} {args : Array Value} {below : List Frame} {meth : Method} {c : Code} {Z : ra_R} {c0 c1 c2 : ra_Sp}  (h0 : ra_MOK l X mi_T_figureAt c0) (h1 : ra_MOK l X mi_R_isOutside c1) (h2 : ra_MOK l X mi_R_has c2) (F : ra_Fx X p rm_V_findLotsFault s m args c prog_10_method_11_code 4 cn_V) (hr : meth.sig.returnType = (some .int)) (hlk : meth.locks = false) {I : Nat → ra_K} (hI : ∀ t ∈ [4], ra_At X p l e rm_V_findLotsFault s m args below meth c 4 (MQ below (ra_Qc X Z) args s 0 0 (ra_A X)) (I t) t) : ra_At X p l e rm_V_findLotsFault s m args below meth c 4 (MQ below (ra_Qc X Z) args s 0 0 (ra_A X)) (b_V_findLotsFault_68 c0 c1 c2 I Z) 68 :=
  r_aload_n F d_V_findLotsFault_68 rfl <| r_getR F cg_V (j := 1) (by decide) rfl fl_V_20 d_V_findLotsFault_69 <| r_getI F cg_T (j := 2) (by decide) rfl fl_V_49 d_V_findLotsFault_72 <| r_aload_n F d_V_findLotsFault_75 rfl <| r_getI F cg_V (j := 8) (by decide) rfl fl_V_61 d_V_findLotsFault_76 <| r_icmp_ge F d_V_findLotsFault_79 (by decide) (o_V_findLotsFault_92 h0 h1 h2 F hr hlk hI) (o_V_findLotsFault_82 h0 h1 h2 F hr hlk hI)
theorem o_V_findLotsFault_56 {X : ra_X} {p : Program} {l : Launch} {e : Env} {s : State} {m : MethodId} {args : Array Value} {below : List Frame} {meth : Method} {c : Code} {Z : ra_R} {c0 c1 c2 : ra_Sp}  (h0 : ra_MOK l X mi_T_figureAt c0) (h1 : ra_MOK l X mi_R_isOutside c1) (h2 : ra_MOK l X mi_R_has c2) (F : ra_Fx X p rm_V_findLotsFault s m args c prog_10_method_11_code 4 cn_V) (hr : meth.sig.returnType = (some .int)) (hlk : meth.locks = false) {I : Nat → ra_K} (hI : ∀ t ∈ [4], ra_At X p l e rm_V_findLotsFault s m args below meth c 4 (MQ below (ra_Qc X Z) args s 0 0 (ra_A X)) (I t) t) : ra_At X p l e rm_V_findLotsFault s m args below meth c 4 (MQ below (ra_Qc X Z) args s 0 0 (ra_A X)) (b_V_findLotsFault_56 c0 c1 c2 I Z) 56 :=
  r_iload_n F d_V_findLotsFault_56 rfl <| r_iconst F d_V_findLotsFault_57 (by decide) <| r_iload_n F d_V_findLotsFault_58 rfl <| r_ishl F d_V_findLotsFault_59 <| r_ior F d_V_findLotsFault_60 <| r_istore_n F d_V_findLotsFault_61 rfl (by decide) <| r_iinc F d_V_findLotsFault_62 (by decide) (by decide) <| r_goto F d_V_findLotsFault_65 (by decide) (hI 4 (by decide))
theorem o_V_findLotsFault_54 {X : ra_X} {p : Program} {l : Launch} {e : Env} {s : State} {m : MethodId} {args : Array Value} {below : List Frame} {meth : Method} {c : Code} {Z : ra_R} {c0 c1 c2 : ra_Sp}  (h0 : ra_MOK l X mi_T_figureAt c0) (h1 : ra_MOK l X mi_R_isOutside c1) (h2 : ra_MOK l X mi_R_has c2) (F : ra_Fx X p rm_V_findLotsFault s m args c prog_10_method_11_code 4 cn_V) (hr : meth.sig.returnType = (some .int)) (hlk : meth.locks = false) {I : Nat → ra_K} (hI : ∀ t ∈ [4], ra_At X p l e rm_V_findLotsFault s m args below meth c 4 (MQ below (ra_Qc X Z) args s 0 0 (ra_A X)) (I t) t) : ra_At X p l e rm_V_findLotsFault s m args below meth c 4 (MQ below (ra_Qc X Z) args s 0 0 (ra_A X)) (b_V_findLotsFault_54 c0 c1 c2 I Z) 54 :=
  r_iload_n F d_V_findLotsFault_54 rfl <| r_ireturn F hr hlk d_V_findLotsFault_55
theorem o_V_findLotsFault_46 {X : ra_X} {p : Program} {l : Launch} {e : Env} {s : State} {m : MethodId} {args : Array Value} {below : List Frame} {meth : Method} {c : Code} {Z : ra_R} {c0 c1 c2 : ra_Sp}  (h0 : ra_MOK l X mi_T_figureAt c0) (h1 : ra_MOK l X mi_R_isOutside c1) (h2 : ra_MOK l X mi_R_has c2) (F : ra_Fx X p rm_V_findLotsFault s m args c prog_10_method_11_code 4 cn_V) (hr : meth.sig.returnType = (some .int)) (hlk : meth.locks = false) {I : Nat → ra_K} (hI : ∀ t ∈ [4], ra_At X p l e rm_V_findLotsFault s m args below meth c 4 (MQ below (ra_Qc X Z) args s 0 0 (ra_A X)) (I t) t) : ra_At X p l e rm_V_findLotsFault s m args below meth c 4 (MQ below (ra_Qc X Z) args s 0 0 (ra_A X)) (b_V_findLotsFault_46 c0 c1 c2 I Z) 46 :=
  r_iload_n F d_V_findLotsFault_46 rfl <| r_iload_n F d_V_findLotsFault_47 rfl <| r_callSN F h2 (co_R_has (by decide +kernel) (by decide +kernel)) ⟨rfl, by decide +kernel⟩ (host := "RoofAcross") (by decide +kernel) st_R_has d_V_findLotsFault_48 <| r_if_eq F d_V_findLotsFault_51 (by decide) (o_V_findLotsFault_56 h0 h1 h2 F hr hlk hI) (o_V_findLotsFault_54 h0 h1 h2 F hr hlk hI)
theorem o_V_findLotsFault_32 {X : ra_X} {p : Program} {l : Launch} {e : Env} {s : State} {m : MethodId} {args : Array Value} {below : List Frame} {meth : Method} {c : Code} {Z : ra_R} {c0 c1 c2 : ra_Sp}  (h0 : ra_MOK l X mi_T_figureAt c0) (h1 : ra_MOK l X mi_R_isOutside c1) (h2 : ra_MOK l X mi_R_has c2) (F : ra_Fx X p rm_V_findLotsFault s m args c prog_10_method_11_code 4 cn_V) (hr : meth.sig.returnType = (some .int)) (hlk : meth.locks = false) {I : Nat → ra_K} (hI : ∀ t ∈ [4], ra_At X p l e rm_V_findLotsFault s m args below meth c 4 (MQ below (ra_Qc X Z) args s 0 0 (ra_A X)) (I t) t) : ra_At X p l e rm_V_findLotsFault s m args below meth c 4 (MQ below (ra_Qc X Z) args s 0 0 (ra_A X)) (b_V_findLotsFault_32 c0 c1 c2 I Z) 32 :=
  r_iload_n F d_V_findLotsFault_32 rfl <| r_iconst F d_V_findLotsFault_33 (by decide) <| r_aload_n F d_V_findLotsFault_34 rfl <| r_getI F cg_V (j := 8) (by decide) rfl fl_V_61 d_V_findLotsFault_35 <| r_iconst F d_V_findLotsFault_38 (by decide) <| r_isub F d_V_findLotsFault_39 <| r_callSN F h1 (co_R_isOutside (by decide +kernel) (by decide +kernel)) ⟨rfl, by decide +kernel⟩ (host := "RoofAcross") (by decide +kernel) st_R_isOutside d_V_findLotsFault_40 <| r_if_ne F d_V_findLotsFault_43 (by decide) (o_V_findLotsFault_54 h0 h1 h2 F hr hlk hI) (o_V_findLotsFault_46 h0 h1 h2 F hr hlk hI)
theorem o_V_findLotsFault_15 {X : ra_X} {p : Program} {l : Launch} {e : Env} {s : State} {m : MethodId} {args : Array Value} {below : List Frame} {meth : Method} {c : Code} {Z : ra_R} {c0 c1 c2 : ra_Sp}  (h0 : ra_MOK l X mi_T_figureAt c0) (h1 : ra_MOK l X mi_R_isOutside c1) (h2 : ra_MOK l X mi_R_has c2) (F : ra_Fx X p rm_V_findLotsFault s m args c prog_10_method_11_code 4 cn_V) (hr : meth.sig.returnType = (some .int)) (hlk : meth.locks = false) {I : Nat → ra_K} (hI : ∀ t ∈ [4], ra_At X p l e rm_V_findLotsFault s m args below meth c 4 (MQ below (ra_Qc X Z) args s 0 0 (ra_A X)) (I t) t) : ra_At X p l e rm_V_findLotsFault s m args below meth c 4 (MQ below (ra_Qc X Z) args s 0 0 (ra_A X)) (b_V_findLotsFault_15 c0 c1 c2 I Z) 15 :=
  r_aload_n F d_V_findLotsFault_15 rfl <| r_getR F cg_V (j := 1) (by decide) rfl fl_V_20 d_V_findLotsFault_16 <| r_iload_n F d_V_findLotsFault_19 rfl <| r_callV F h0 (co_T_figureAt (by decide +kernel) (by decide +kernel)) ⟨rfl, by decide +kernel⟩ ⟨rfl, by decide⟩ ml_V_101 im_T_figureAt se_T_figureAt d_V_findLotsFault_20 <| r_istore_n F d_V_findLotsFault_23 rfl (by decide) <| r_iload_n F d_V_findLotsFault_24 rfl <| r_aload_n F d_V_findLotsFault_25 rfl <| r_getI F cg_V (j := 8) (by decide) rfl fl_V_61 d_V_findLotsFault_26 <| r_icmp_ge F d_V_findLotsFault_29 (by decide) (o_V_findLotsFault_54 h0 h1 h2 F hr hlk hI) (o_V_findLotsFault_32 h0 h1 h2 F hr hlk hI)
theorem o_V_findLotsFault_4 {X : ra_X} {p : Program} {l : Launch} {e : Env} {s : State} {m : MethodId} {args : Array Value} {below : List Frame} {meth : Method} {c : Code} {Z : ra_R} {c0 c1 c2 : ra_Sp}  (h0 : ra_MOK l X mi_T_figureAt c0) (h1 : ra_MOK l X mi_R_isOutside c1) (h2 : ra_MOK l X mi_R_has c2) (F : ra_Fx X p rm_V_findLotsFault s m args c prog_10_method_11_code 4 cn_V) (hr : meth.sig.returnType = (some .int)) (hlk : meth.locks = false) {I : Nat → ra_K} (hI : ∀ t ∈ [4], ra_At X p l e rm_V_findLotsFault s m args below meth c 4 (MQ below (ra_Qc X Z) args s 0 0 (ra_A X)) (I t) t) : ra_At X p l e rm_V_findLotsFault s m args below meth c 4 (MQ below (ra_Qc X Z) args s 0 0 (ra_A X)) (b_V_findLotsFault_4 c0 c1 c2 I Z) 4 :=
  r_iload_n F d_V_findLotsFault_4 rfl <| r_aload_n F d_V_findLotsFault_5 rfl <| r_getR F cg_V (j := 1) (by decide) rfl fl_V_20 d_V_findLotsFault_6 <| r_getI F cg_T (j := 2) (by decide) rfl fl_V_49 d_V_findLotsFault_9 <| r_icmp_ge F d_V_findLotsFault_12 (by decide) (o_V_findLotsFault_68 h0 h1 h2 F hr hlk hI) (o_V_findLotsFault_15 h0 h1 h2 F hr hlk hI)
theorem o_V_findLotsFault_0 {X : ra_X} {p : Program} {l : Launch} {e : Env} {s : State} {m : MethodId} {args : Array Value} {below : List Frame} {meth : Method} {c : Code} {Z : ra_R} {c0 c1 c2 : ra_Sp}  (h0 : ra_MOK l X mi_T_figureAt c0) (h1 : ra_MOK l X mi_R_isOutside c1) (h2 : ra_MOK l X mi_R_has c2) (F : ra_Fx X p rm_V_findLotsFault s m args c prog_10_method_11_code 4 cn_V) (hr : meth.sig.returnType = (some .int)) (hlk : meth.locks = false) {I : Nat → ra_K} (hI : ∀ t ∈ [4], ra_At X p l e rm_V_findLotsFault s m args below meth c 4 (MQ below (ra_Qc X Z) args s 0 0 (ra_A X)) (I t) t) : ra_At X p l e rm_V_findLotsFault s m args below meth c 4 (MQ below (ra_Qc X Z) args s 0 0 (ra_A X)) (b_V_findLotsFault_0 c0 c1 c2 I Z) 0 :=
  r_iconst F d_V_findLotsFault_0 (by decide) <| r_istore_n F d_V_findLotsFault_1 rfl (by decide) <| r_iconst F d_V_findLotsFault_2 (by decide) <| r_istore_n F d_V_findLotsFault_3 rfl (by decide) <| (hI 4 (by decide))
theorem g_V_findLotsFault {l : Launch} {X : ra_X} {c0 c1 c2 : ra_Sp}  (h0 : ra_MOK l X mi_T_figureAt c0) (h1 : ra_MOK l X mi_R_isOutside c1) (h2 : ra_MOK l X mi_R_has c2) (sp : ra_Sp) (I : ra_R → List Value → ra_St → Nat → ra_M → ra_K) (ve : ∀ as σ Z, ra_c1 as = true → as.length = 1 → sp as σ Z → b_V_findLotsFault_0 c0 c1 c2 (ra_I (I Z as σ)) Z (ra_pad 4 as) [] σ) (v4 : ∀ as σ Z, sp as σ Z → ∀ μ L S σ1, I Z as σ 4 μ L S σ1 → b_V_findLotsFault_4 c0 c1 c2 (ra_J (I Z as σ) μ) Z L S σ1) : ra_MOK l X mi_V_findLotsFault sp := by
  refine ra_enter (k := fun Z as σ => b_V_findLotsFault_0 c0 c1 c2 (ra_I (I Z as σ)) Z) cn_V rfl (by decide +kernel) ⟨by decide +kernel, by decide +kernel⟩ (by decide +kernel) ?_ ve
  intro p e s m args below meth c Z as σ hsp F hr hlk
  refine o_V_findLotsFault_0 h0 h1 h2 F hr hlk (ra_cuts (b := fun t J => if t = 4 then b_V_findLotsFault_4 c0 c1 c2 J Z else fun _ _ _ => False) ?_ ?_)
  · intro t ht J hJ
    simp only [List.mem_cons, List.not_mem_nil, or_false] at ht
    rcases ht with rfl
    · exact o_V_findLotsFault_4 h0 h1 h2 F hr hlk hJ
  · intro t ht μ L S σ1 hI
    simp only [List.mem_cons, List.not_mem_nil, or_false] at ht
    rcases ht with rfl
    · exact v4 as σ Z hsp μ L S σ1 hI

theorem d_V_readLots_0 : decode prog_10_method_12_code 0 = .ok (.iconst 0, 1) := by decide +kernel
theorem d_V_readLots_1 : decode prog_10_method_12_code 1 = .ok (.istore_n 1, 1) := by decide +kernel
theorem d_V_readLots_2 : decode prog_10_method_12_code 2 = .ok (.iload_n 1, 1) := by decide +kernel
theorem d_V_readLots_3 : decode prog_10_method_12_code 3 = .ok (.aload_n 0, 1) := by decide +kernel
theorem d_V_readLots_4 : decode prog_10_method_12_code 4 = .ok (.getfield 61, 3) := by decide +kernel
theorem d_V_readLots_7 : decode prog_10_method_12_code 7 = .ok (.if_icmp .ge 65, 3) := by decide +kernel
theorem d_V_readLots_10 : decode prog_10_method_12_code 10 = .ok (.iload_n 1, 1) := by decide +kernel
theorem d_V_readLots_11 : decode prog_10_method_12_code 11 = .ok (.iconst 1, 1) := by decide +kernel
theorem d_V_readLots_12 : decode prog_10_method_12_code 12 = .ok (.iadd, 1) := by decide +kernel
theorem d_V_readLots_13 : decode prog_10_method_12_code 13 = .ok (.aload_n 0, 1) := by decide +kernel
theorem d_V_readLots_14 : decode prog_10_method_12_code 14 = .ok (.getfield 61, 3) := by decide +kernel
theorem d_V_readLots_17 : decode prog_10_method_12_code 17 = .ok (.if_icmp .ge 9, 3) := by decide +kernel
theorem d_V_readLots_20 : decode prog_10_method_12_code 20 = .ok (.iload_n 1, 1) := by decide +kernel
theorem d_V_readLots_21 : decode prog_10_method_12_code 21 = .ok (.iconst 1, 1) := by decide +kernel
theorem d_V_readLots_22 : decode prog_10_method_12_code 22 = .ok (.iadd, 1) := by decide +kernel
theorem d_V_readLots_23 : decode prog_10_method_12_code 23 = .ok (.goto 4, 3) := by decide +kernel
theorem d_V_readLots_26 : decode prog_10_method_12_code 26 = .ok (.iconst 0, 1) := by decide +kernel
theorem d_V_readLots_27 : decode prog_10_method_12_code 27 = .ok (.istore_n 2, 1) := by decide +kernel
theorem d_V_readLots_28 : decode prog_10_method_12_code 28 = .ok (.aload_n 0, 1) := by decide +kernel
theorem d_V_readLots_29 : decode prog_10_method_12_code 29 = .ok (.getfield 33, 3) := by decide +kernel
theorem d_V_readLots_32 : decode prog_10_method_12_code 32 = .ok (.iload_n 1, 1) := by decide +kernel
theorem d_V_readLots_33 : decode prog_10_method_12_code 33 = .ok (.aload_n 0, 1) := by decide +kernel
theorem d_V_readLots_34 : decode prog_10_method_12_code 34 = .ok (.getfield 46, 3) := by decide +kernel
theorem d_V_readLots_37 : decode prog_10_method_12_code 37 = .ok (.iconst (-1), 1) := by decide +kernel
theorem d_V_readLots_38 : decode prog_10_method_12_code 38 = .ok (.if_icmp .ne 14, 3) := by decide +kernel
theorem d_V_readLots_41 : decode prog_10_method_12_code 41 = .ok (.aload_n 0, 1) := by decide +kernel
theorem d_V_readLots_42 : decode prog_10_method_12_code 42 = .ok (.getfield 20, 3) := by decide +kernel
theorem d_V_readLots_45 : decode prog_10_method_12_code 45 = .ok (.iload_n 1, 1) := by decide +kernel
theorem d_V_readLots_46 : decode prog_10_method_12_code 46 = .ok (.invokevirtual 101, 3) := by decide +kernel
theorem d_V_readLots_49 : decode prog_10_method_12_code 49 = .ok (.goto 4, 3) := by decide +kernel
theorem d_V_readLots_52 : decode prog_10_method_12_code 52 = .ok (.iload_n 2, 1) := by decide +kernel
theorem d_V_readLots_53 : decode prog_10_method_12_code 53 = .ok (.iastore, 1) := by decide +kernel
theorem d_V_readLots_54 : decode prog_10_method_12_code 54 = .ok (.aload_n 0, 1) := by decide +kernel
theorem d_V_readLots_55 : decode prog_10_method_12_code 55 = .ok (.getfield 36, 3) := by decide +kernel
theorem d_V_readLots_58 : decode prog_10_method_12_code 58 = .ok (.aload_n 0, 1) := by decide +kernel
theorem d_V_readLots_59 : decode prog_10_method_12_code 59 = .ok (.getfield 33, 3) := by decide +kernel
theorem d_V_readLots_62 : decode prog_10_method_12_code 62 = .ok (.iload_n 1, 1) := by decide +kernel
theorem d_V_readLots_63 : decode prog_10_method_12_code 63 = .ok (.iaload, 1) := by decide +kernel
theorem d_V_readLots_64 : decode prog_10_method_12_code 64 = .ok (.iload_n 1, 1) := by decide +kernel
theorem d_V_readLots_65 : decode prog_10_method_12_code 65 = .ok (.iastore, 1) := by decide +kernel
theorem d_V_readLots_66 : decode prog_10_method_12_code 66 = .ok (.iinc 1 1, 3) := by decide +kernel
theorem d_V_readLots_69 : decode prog_10_method_12_code 69 = .ok (.goto (-67), 3) := by decide +kernel
theorem d_V_readLots_72 : decode prog_10_method_12_code 72 = .ok (.return_, 1) := by decide +kernel
def b_V_readLots_72 (c0 : ra_Sp) (I : Nat → ra_K) (Z : ra_R) : ra_K := w_vr Z
def b_V_readLots_53 (c0 : ra_Sp) (I : Nat → ra_K) (Z : ra_R) : ra_K := w_ast <| w_al 0 <| w_gr 1 6 <| w_al 0 <| w_gr 1 5 <| w_il 1 <| w_ald <| w_il 1 <| w_ast <| w_inc 1 1 <| (I 2)
def b_V_readLots_52 (c0 : ra_Sp) (I : Nat → ra_K) (Z : ra_R) : ra_K := w_il 2 <| (b_V_readLots_53 c0 I Z)
def b_V_readLots_41 (c0 : ra_Sp) (I : Nat → ra_K) (Z : ra_R) : ra_K := w_al 0 <| w_gr 1 1 <| w_il 1 <| w_cv c0 2 2 <| (b_V_readLots_53 c0 I Z)
def b_V_readLots_27 (c0 : ra_Sp) (I : Nat → ra_K) (Z : ra_R) : ra_K := w_is 2 <| w_al 0 <| w_gr 1 5 <| w_il 1 <| w_al 0 <| w_gi 1 10 <| w_c (-1) <| w_b2 (fun x y => x = y) (b_V_readLots_41 c0 I Z) (b_V_readLots_52 c0 I Z)
def b_V_readLots_26 (c0 : ra_Sp) (I : Nat → ra_K) (Z : ra_R) : ra_K := w_c 0 <| (b_V_readLots_27 c0 I Z)
def b_V_readLots_20 (c0 : ra_Sp) (I : Nat → ra_K) (Z : ra_R) : ra_K := w_il 1 <| w_c 1 <| w_i2 (fun x y => x + y) <| (b_V_readLots_27 c0 I Z)
def b_V_readLots_10 (c0 : ra_Sp) (I : Nat → ra_K) (Z : ra_R) : ra_K := w_il 1 <| w_c 1 <| w_i2 (fun x y => x + y) <| w_al 0 <| w_gi 1 8 <| w_b2 (fun x y => y ≤ x) (b_V_readLots_26 c0 I Z) (b_V_readLots_20 c0 I Z)
def b_V_readLots_2 (c0 : ra_Sp) (I : Nat → ra_K) (Z : ra_R) : ra_K := w_il 1 <| w_al 0 <| w_gi 1 8 <| w_b2 (fun x y => y ≤ x) (b_V_readLots_72 c0 I Z) (b_V_readLots_10 c0 I Z)
def b_V_readLots_0 (c0 : ra_Sp) (I : Nat → ra_K) (Z : ra_R) : ra_K := w_c 0 <| w_is 1 <| (I 2)
theorem o_V_readLots_72 {X : ra_X} {p : Program} {l : Launch} {e : Env} {s : State} {m : MethodId} {args : Array Value} {below : List Frame} {meth : Method} {c : Code} {Z : ra_R} {c0 : ra_Sp}  (h0 : ra_MOK l X mi_T_figureAt c0) (F : ra_Fx X p rm_V_readLots s m args c prog_10_method_12_code 3 cn_V) (hr : meth.sig.returnType = none) (hlk : meth.locks = false) {I : Nat → ra_K} (hI : ∀ t ∈ [2], ra_At X p l e rm_V_readLots s m args below meth c 3 (MQ below (ra_Qc X Z) args s 0 0 (ra_A X)) (I t) t) : ra_At X p l e rm_V_readLots s m args below meth c 3 (MQ below (ra_Qc X Z) args s 0 0 (ra_A X)) (b_V_readLots_72 c0 I Z) 72 :=
  r_return F hr hlk d_V_readLots_72
theorem o_V_readLots_53 {X : ra_X} {p : Program} {l : Launch} {e : Env} {s : State} {m : MethodId} {args : Array Value} {below : List Frame} {meth : Method} {c : Code} {Z : ra_R} {c0 : ra_Sp}  (h0 : ra_MOK l X mi_T_figureAt c0) (F : ra_Fx X p rm_V_readLots s m args c prog_10_method_12_code 3 cn_V) (hr : meth.sig.returnType = none) (hlk : meth.locks = false) {I : Nat → ra_K} (hI : ∀ t ∈ [2], ra_At X p l e rm_V_readLots s m args below meth c 3 (MQ below (ra_Qc X Z) args s 0 0 (ra_A X)) (I t) t) : ra_At X p l e rm_V_readLots s m args below meth c 3 (MQ below (ra_Qc X Z) args s 0 0 (ra_A X)) (b_V_readLots_53 c0 I Z) 53 :=
  r_iastore F d_V_readLots_53 <| r_aload_n F d_V_readLots_54 rfl <| r_getR F cg_V (j := 6) (by decide) rfl fl_V_36 d_V_readLots_55 <| r_aload_n F d_V_readLots_58 rfl <| r_getR F cg_V (j := 5) (by decide) rfl fl_V_33 d_V_readLots_59 <| r_iload_n F d_V_readLots_62 rfl <| r_iaload F d_V_readLots_63 <| r_iload_n F d_V_readLots_64 rfl <| r_iastore F d_V_readLots_65 <| r_iinc F d_V_readLots_66 (by decide) (by decide) <| r_goto F d_V_readLots_69 (by decide) (hI 2 (by decide))
theorem o_V_readLots_52 {X : ra_X} {p : Program} {l : Launch} {e : Env} {s : State} {m : MethodId} {args : Array Value} {below : List Frame} {meth : Method} {c : Code} {Z : ra_R} {c0 : ra_Sp}  (h0 : ra_MOK l X mi_T_figureAt c0) (F : ra_Fx X p rm_V_readLots s m args c prog_10_method_12_code 3 cn_V) (hr : meth.sig.returnType = none) (hlk : meth.locks = false) {I : Nat → ra_K} (hI : ∀ t ∈ [2], ra_At X p l e rm_V_readLots s m args below meth c 3 (MQ below (ra_Qc X Z) args s 0 0 (ra_A X)) (I t) t) : ra_At X p l e rm_V_readLots s m args below meth c 3 (MQ below (ra_Qc X Z) args s 0 0 (ra_A X)) (b_V_readLots_52 c0 I Z) 52 :=
  r_iload_n F d_V_readLots_52 rfl <| (o_V_readLots_53 h0 F hr hlk hI)
theorem o_V_readLots_41 {X : ra_X} {p : Program} {l : Launch} {e : Env} {s : State} {m : MethodId} {args : Array Value} {below : List Frame} {meth : Method} {c : Code} {Z : ra_R} {c0 : ra_Sp}  (h0 : ra_MOK l X mi_T_figureAt c0) (F : ra_Fx X p rm_V_readLots s m args c prog_10_method_12_code 3 cn_V) (hr : meth.sig.returnType = none) (hlk : meth.locks = false) {I : Nat → ra_K} (hI : ∀ t ∈ [2], ra_At X p l e rm_V_readLots s m args below meth c 3 (MQ below (ra_Qc X Z) args s 0 0 (ra_A X)) (I t) t) : ra_At X p l e rm_V_readLots s m args below meth c 3 (MQ below (ra_Qc X Z) args s 0 0 (ra_A X)) (b_V_readLots_41 c0 I Z) 41 :=
  r_aload_n F d_V_readLots_41 rfl <| r_getR F cg_V (j := 1) (by decide) rfl fl_V_20 d_V_readLots_42 <| r_iload_n F d_V_readLots_45 rfl <| r_callV F h0 (co_T_figureAt (by decide +kernel) (by decide +kernel)) ⟨rfl, by decide +kernel⟩ ⟨rfl, by decide⟩ ml_V_101 im_T_figureAt se_T_figureAt d_V_readLots_46 <| r_goto F d_V_readLots_49 (by decide) (o_V_readLots_53 h0 F hr hlk hI)
theorem o_V_readLots_27 {X : ra_X} {p : Program} {l : Launch} {e : Env} {s : State} {m : MethodId} {args : Array Value} {below : List Frame} {meth : Method} {c : Code} {Z : ra_R} {c0 : ra_Sp}  (h0 : ra_MOK l X mi_T_figureAt c0) (F : ra_Fx X p rm_V_readLots s m args c prog_10_method_12_code 3 cn_V) (hr : meth.sig.returnType = none) (hlk : meth.locks = false) {I : Nat → ra_K} (hI : ∀ t ∈ [2], ra_At X p l e rm_V_readLots s m args below meth c 3 (MQ below (ra_Qc X Z) args s 0 0 (ra_A X)) (I t) t) : ra_At X p l e rm_V_readLots s m args below meth c 3 (MQ below (ra_Qc X Z) args s 0 0 (ra_A X)) (b_V_readLots_27 c0 I Z) 27 :=
  r_istore_n F d_V_readLots_27 rfl (by decide) <| r_aload_n F d_V_readLots_28 rfl <| r_getR F cg_V (j := 5) (by decide) rfl fl_V_33 d_V_readLots_29 <| r_iload_n F d_V_readLots_32 rfl <| r_aload_n F d_V_readLots_33 rfl <| r_getI F cg_V (j := 10) (by decide) rfl fl_V_46 d_V_readLots_34 <| r_iconst F d_V_readLots_37 (by decide) <| r_icmp_ne F d_V_readLots_38 (by decide) (o_V_readLots_52 h0 F hr hlk hI) (o_V_readLots_41 h0 F hr hlk hI)
theorem o_V_readLots_26 {X : ra_X} {p : Program} {l : Launch} {e : Env} {s : State} {m : MethodId} {args : Array Value} {below : List Frame} {meth : Method} {c : Code} {Z : ra_R} {c0 : ra_Sp}  (h0 : ra_MOK l X mi_T_figureAt c0) (F : ra_Fx X p rm_V_readLots s m args c prog_10_method_12_code 3 cn_V) (hr : meth.sig.returnType = none) (hlk : meth.locks = false) {I : Nat → ra_K} (hI : ∀ t ∈ [2], ra_At X p l e rm_V_readLots s m args below meth c 3 (MQ below (ra_Qc X Z) args s 0 0 (ra_A X)) (I t) t) : ra_At X p l e rm_V_readLots s m args below meth c 3 (MQ below (ra_Qc X Z) args s 0 0 (ra_A X)) (b_V_readLots_26 c0 I Z) 26 :=
  r_iconst F d_V_readLots_26 (by decide) <| (o_V_readLots_27 h0 F hr hlk hI)
theorem o_V_readLots_20 {X : ra_X} {p : Program} {l : Launch} {e : Env} {s : State} {m : MethodId} {args : Array Value} {below : List Frame} {meth : Method} {c : Code} {Z : ra_R} {c0 : ra_Sp}  (h0 : ra_MOK l X mi_T_figureAt c0) (F : ra_Fx X p rm_V_readLots s m args c prog_10_method_12_code 3 cn_V) (hr : meth.sig.returnType = none) (hlk : meth.locks = false) {I : Nat → ra_K} (hI : ∀ t ∈ [2], ra_At X p l e rm_V_readLots s m args below meth c 3 (MQ below (ra_Qc X Z) args s 0 0 (ra_A X)) (I t) t) : ra_At X p l e rm_V_readLots s m args below meth c 3 (MQ below (ra_Qc X Z) args s 0 0 (ra_A X)) (b_V_readLots_20 c0 I Z) 20 :=
  r_iload_n F d_V_readLots_20 rfl <| r_iconst F d_V_readLots_21 (by decide) <| r_iadd F d_V_readLots_22 <| r_goto F d_V_readLots_23 (by decide) (o_V_readLots_27 h0 F hr hlk hI)
theorem o_V_readLots_10 {X : ra_X} {p : Program} {l : Launch} {e : Env} {s : State} {m : MethodId} {args : Array Value} {below : List Frame} {meth : Method} {c : Code} {Z : ra_R} {c0 : ra_Sp}  (h0 : ra_MOK l X mi_T_figureAt c0) (F : ra_Fx X p rm_V_readLots s m args c prog_10_method_12_code 3 cn_V) (hr : meth.sig.returnType = none) (hlk : meth.locks = false) {I : Nat → ra_K} (hI : ∀ t ∈ [2], ra_At X p l e rm_V_readLots s m args below meth c 3 (MQ below (ra_Qc X Z) args s 0 0 (ra_A X)) (I t) t) : ra_At X p l e rm_V_readLots s m args below meth c 3 (MQ below (ra_Qc X Z) args s 0 0 (ra_A X)) (b_V_readLots_10 c0 I Z) 10 :=
  r_iload_n F d_V_readLots_10 rfl <| r_iconst F d_V_readLots_11 (by decide) <| r_iadd F d_V_readLots_12 <| r_aload_n F d_V_readLots_13 rfl <| r_getI F cg_V (j := 8) (by decide) rfl fl_V_61 d_V_readLots_14 <| r_icmp_ge F d_V_readLots_17 (by decide) (o_V_readLots_26 h0 F hr hlk hI) (o_V_readLots_20 h0 F hr hlk hI)
theorem o_V_readLots_2 {X : ra_X} {p : Program} {l : Launch} {e : Env} {s : State} {m : MethodId} {args : Array Value} {below : List Frame} {meth : Method} {c : Code} {Z : ra_R} {c0 : ra_Sp}  (h0 : ra_MOK l X mi_T_figureAt c0) (F : ra_Fx X p rm_V_readLots s m args c prog_10_method_12_code 3 cn_V) (hr : meth.sig.returnType = none) (hlk : meth.locks = false) {I : Nat → ra_K} (hI : ∀ t ∈ [2], ra_At X p l e rm_V_readLots s m args below meth c 3 (MQ below (ra_Qc X Z) args s 0 0 (ra_A X)) (I t) t) : ra_At X p l e rm_V_readLots s m args below meth c 3 (MQ below (ra_Qc X Z) args s 0 0 (ra_A X)) (b_V_readLots_2 c0 I Z) 2 :=
  r_iload_n F d_V_readLots_2 rfl <| r_aload_n F d_V_readLots_3 rfl <| r_getI F cg_V (j := 8) (by decide) rfl fl_V_61 d_V_readLots_4 <| r_icmp_ge F d_V_readLots_7 (by decide) (o_V_readLots_72 h0 F hr hlk hI) (o_V_readLots_10 h0 F hr hlk hI)
theorem o_V_readLots_0 {X : ra_X} {p : Program} {l : Launch} {e : Env} {s : State} {m : MethodId} {args : Array Value} {below : List Frame} {meth : Method} {c : Code} {Z : ra_R} {c0 : ra_Sp}  (h0 : ra_MOK l X mi_T_figureAt c0) (F : ra_Fx X p rm_V_readLots s m args c prog_10_method_12_code 3 cn_V) (hr : meth.sig.returnType = none) (hlk : meth.locks = false) {I : Nat → ra_K} (hI : ∀ t ∈ [2], ra_At X p l e rm_V_readLots s m args below meth c 3 (MQ below (ra_Qc X Z) args s 0 0 (ra_A X)) (I t) t) : ra_At X p l e rm_V_readLots s m args below meth c 3 (MQ below (ra_Qc X Z) args s 0 0 (ra_A X)) (b_V_readLots_0 c0 I Z) 0 :=
  r_iconst F d_V_readLots_0 (by decide) <| r_istore_n F d_V_readLots_1 rfl (by decide) <| (hI 2 (by decide))
theorem g_V_readLots {l : Launch} {X : ra_X} {c0 : ra_Sp}  (h0 : ra_MOK l X mi_T_figureAt c0) (sp : ra_Sp) (I : ra_R → List Value → ra_St → Nat → ra_M → ra_K) (ve : ∀ as σ Z, ra_c1 as = true → as.length = 1 → sp as σ Z → b_V_readLots_0 c0 (ra_I (I Z as σ)) Z (ra_pad 3 as) [] σ) (v2 : ∀ as σ Z, sp as σ Z → ∀ μ L S σ1, I Z as σ 2 μ L S σ1 → b_V_readLots_2 c0 (ra_J (I Z as σ) μ) Z L S σ1) : ra_MOK l X mi_V_readLots sp := by
  refine ra_enter (k := fun Z as σ => b_V_readLots_0 c0 (ra_I (I Z as σ)) Z) cn_V rfl (by decide +kernel) ⟨by decide +kernel, by decide +kernel⟩ (by decide +kernel) ?_ ve
  intro p e s m args below meth c Z as σ hsp F hr hlk
  refine o_V_readLots_0 h0 F hr hlk (ra_cuts (b := fun t J => if t = 2 then b_V_readLots_2 c0 J Z else fun _ _ _ => False) ?_ ?_)
  · intro t ht J hJ
    simp only [List.mem_cons, List.not_mem_nil, or_false] at ht
    rcases ht with rfl
    · exact o_V_readLots_2 h0 F hr hlk hJ
  · intro t ht μ L S σ1 hI
    simp only [List.mem_cons, List.not_mem_nil, or_false] at ht
    rcases ht with rfl
    · exact v2 as σ Z hsp μ L S σ1 hI

theorem d_V_readRings_0 : decode prog_10_method_13_code 0 = .ok (.iconst 0, 1) := by decide +kernel
theorem d_V_readRings_1 : decode prog_10_method_13_code 1 = .ok (.istore_n 1, 1) := by decide +kernel
theorem d_V_readRings_2 : decode prog_10_method_13_code 2 = .ok (.iload_n 1, 1) := by decide +kernel
theorem d_V_readRings_3 : decode prog_10_method_13_code 3 = .ok (.aload_n 0, 1) := by decide +kernel
theorem d_V_readRings_4 : decode prog_10_method_13_code 4 = .ok (.getfield 61, 3) := by decide +kernel
theorem d_V_readRings_7 : decode prog_10_method_13_code 7 = .ok (.if_icmp .ge 59, 3) := by decide +kernel
theorem d_V_readRings_10 : decode prog_10_method_13_code 10 = .ok (.iconst 0, 1) := by decide +kernel
theorem d_V_readRings_11 : decode prog_10_method_13_code 11 = .ok (.istore_n 2, 1) := by decide +kernel
theorem d_V_readRings_12 : decode prog_10_method_13_code 12 = .ok (.iload_n 1, 1) := by decide +kernel
theorem d_V_readRings_13 : decode prog_10_method_13_code 13 = .ok (.istore_n 3, 1) := by decide +kernel
theorem d_V_readRings_14 : decode prog_10_method_13_code 14 = .ok (.iconst 0, 1) := by decide +kernel
theorem d_V_readRings_15 : decode prog_10_method_13_code 15 = .ok (.istore 4, 2) := by decide +kernel
theorem d_V_readRings_17 : decode prog_10_method_13_code 17 = .ok (.iload 4, 2) := by decide +kernel
theorem d_V_readRings_19 : decode prog_10_method_13_code 19 = .ok (.aload_n 0, 1) := by decide +kernel
theorem d_V_readRings_20 : decode prog_10_method_13_code 20 = .ok (.getfield 61, 3) := by decide +kernel
theorem d_V_readRings_23 : decode prog_10_method_13_code 23 = .ok (.if_icmp .ge 30, 3) := by decide +kernel
theorem d_V_readRings_26 : decode prog_10_method_13_code 26 = .ok (.iload_n 2, 1) := by decide +kernel
theorem d_V_readRings_27 : decode prog_10_method_13_code 27 = .ok (.iload_n 3, 1) := by decide +kernel
theorem d_V_readRings_28 : decode prog_10_method_13_code 28 = .ok (.invokestatic 108, 3) := by decide +kernel
theorem d_V_readRings_31 : decode prog_10_method_13_code 31 = .ok (.ifCond .ne 22, 3) := by decide +kernel
theorem d_V_readRings_34 : decode prog_10_method_13_code 34 = .ok (.iload_n 2, 1) := by decide +kernel
theorem d_V_readRings_35 : decode prog_10_method_13_code 35 = .ok (.iconst 1, 1) := by decide +kernel
theorem d_V_readRings_36 : decode prog_10_method_13_code 36 = .ok (.iload_n 3, 1) := by decide +kernel
theorem d_V_readRings_37 : decode prog_10_method_13_code 37 = .ok (.ishl, 1) := by decide +kernel
theorem d_V_readRings_38 : decode prog_10_method_13_code 38 = .ok (.ior, 1) := by decide +kernel
theorem d_V_readRings_39 : decode prog_10_method_13_code 39 = .ok (.istore_n 2, 1) := by decide +kernel
theorem d_V_readRings_40 : decode prog_10_method_13_code 40 = .ok (.aload_n 0, 1) := by decide +kernel
theorem d_V_readRings_41 : decode prog_10_method_13_code 41 = .ok (.getfield 33, 3) := by decide +kernel
theorem d_V_readRings_44 : decode prog_10_method_13_code 44 = .ok (.iload_n 3, 1) := by decide +kernel
theorem d_V_readRings_45 : decode prog_10_method_13_code 45 = .ok (.iaload, 1) := by decide +kernel
theorem d_V_readRings_46 : decode prog_10_method_13_code 46 = .ok (.istore_n 3, 1) := by decide +kernel
theorem d_V_readRings_47 : decode prog_10_method_13_code 47 = .ok (.iinc 4 1, 3) := by decide +kernel
theorem d_V_readRings_50 : decode prog_10_method_13_code 50 = .ok (.goto (-33), 3) := by decide +kernel
theorem d_V_readRings_53 : decode prog_10_method_13_code 53 = .ok (.aload_n 0, 1) := by decide +kernel
theorem d_V_readRings_54 : decode prog_10_method_13_code 54 = .ok (.getfield 39, 3) := by decide +kernel
theorem d_V_readRings_57 : decode prog_10_method_13_code 57 = .ok (.iload_n 1, 1) := by decide +kernel
theorem d_V_readRings_58 : decode prog_10_method_13_code 58 = .ok (.iload_n 2, 1) := by decide +kernel
theorem d_V_readRings_59 : decode prog_10_method_13_code 59 = .ok (.iastore, 1) := by decide +kernel
theorem d_V_readRings_60 : decode prog_10_method_13_code 60 = .ok (.iinc 1 1, 3) := by decide +kernel
theorem d_V_readRings_63 : decode prog_10_method_13_code 63 = .ok (.goto (-61), 3) := by decide +kernel
theorem d_V_readRings_66 : decode prog_10_method_13_code 66 = .ok (.return_, 1) := by decide +kernel
def b_V_readRings_66 (c0 : ra_Sp) (I : Nat → ra_K) (Z : ra_R) : ra_K := w_vr Z
def b_V_readRings_53 (c0 : ra_Sp) (I : Nat → ra_K) (Z : ra_R) : ra_K := w_al 0 <| w_gr 1 7 <| w_il 1 <| w_il 2 <| w_ast <| w_inc 1 1 <| (I 2)
def b_V_readRings_34 (c0 : ra_Sp) (I : Nat → ra_K) (Z : ra_R) : ra_K := w_il 2 <| w_c 1 <| w_il 3 <| w_i2 (fun x y => x <<< (y &&& 31)) <| w_i2 (fun x y => x ||| y) <| w_is 2 <| w_al 0 <| w_gr 1 5 <| w_il 3 <| w_ald <| w_is 3 <| w_inc 4 1 <| (I 17)
def b_V_readRings_26 (c0 : ra_Sp) (I : Nat → ra_K) (Z : ra_R) : ra_K := w_il 2 <| w_il 3 <| w_cs c0 2 <| w_b1 (fun x => x = 0) (b_V_readRings_34 c0 I Z) (b_V_readRings_53 c0 I Z)
def b_V_readRings_17 (c0 : ra_Sp) (I : Nat → ra_K) (Z : ra_R) : ra_K := w_il 4 <| w_al 0 <| w_gi 1 8 <| w_b2 (fun x y => y ≤ x) (b_V_readRings_53 c0 I Z) (b_V_readRings_26 c0 I Z)
def b_V_readRings_10 (c0 : ra_Sp) (I : Nat → ra_K) (Z : ra_R) : ra_K := w_c 0 <| w_is 2 <| w_il 1 <| w_is 3 <| w_c 0 <| w_is 4 <| (I 17)
def b_V_readRings_2 (c0 : ra_Sp) (I : Nat → ra_K) (Z : ra_R) : ra_K := w_il 1 <| w_al 0 <| w_gi 1 8 <| w_b2 (fun x y => y ≤ x) (b_V_readRings_66 c0 I Z) (b_V_readRings_10 c0 I Z)
def b_V_readRings_0 (c0 : ra_Sp) (I : Nat → ra_K) (Z : ra_R) : ra_K := w_c 0 <| w_is 1 <| (I 2)
theorem o_V_readRings_66 {X : ra_X} {p : Program} {l : Launch} {e : Env} {s : State} {m : MethodId} {args : Array Value} {below : List Frame} {meth : Method} {c : Code} {Z : ra_R} {c0 : ra_Sp}  (h0 : ra_MOK l X mi_R_has c0) (F : ra_Fx X p rm_V_readRings s m args c prog_10_method_13_code 5 cn_V) (hr : meth.sig.returnType = none) (hlk : meth.locks = false) {I : Nat → ra_K} (hI : ∀ t ∈ [2, 17], ra_At X p l e rm_V_readRings s m args below meth c 5 (MQ below (ra_Qc X Z) args s 0 0 (ra_A X)) (I t) t) : ra_At X p l e rm_V_readRings s m args below meth c 5 (MQ below (ra_Qc X Z) args s 0 0 (ra_A X)) (b_V_readRings_66 c0 I Z) 66 :=
  r_return F hr hlk d_V_readRings_66
theorem o_V_readRings_53 {X : ra_X} {p : Program} {l : Launch} {e : Env} {s : State} {m : MethodId} {args : Array Value} {below : List Frame} {meth : Method} {c : Code} {Z : ra_R} {c0 : ra_Sp}  (h0 : ra_MOK l X mi_R_has c0) (F : ra_Fx X p rm_V_readRings s m args c prog_10_method_13_code 5 cn_V) (hr : meth.sig.returnType = none) (hlk : meth.locks = false) {I : Nat → ra_K} (hI : ∀ t ∈ [2, 17], ra_At X p l e rm_V_readRings s m args below meth c 5 (MQ below (ra_Qc X Z) args s 0 0 (ra_A X)) (I t) t) : ra_At X p l e rm_V_readRings s m args below meth c 5 (MQ below (ra_Qc X Z) args s 0 0 (ra_A X)) (b_V_readRings_53 c0 I Z) 53 :=
  r_aload_n F d_V_readRings_53 rfl <| r_getR F cg_V (j := 7) (by decide) rfl fl_V_39 d_V_readRings_54 <| r_iload_n F d_V_readRings_57 rfl <| r_iload_n F d_V_readRings_58 rfl <| r_iastore F d_V_readRings_59 <| r_iinc F d_V_readRings_60 (by decide) (by decide) <| r_goto F d_V_readRings_63 (by decide) (hI 2 (by decide))
theorem o_V_readRings_34 {X : ra_X} {p : Program} {l : Launch} {e : Env} {s : State} {m : MethodId} {args : Array Value} {below : List Frame} {meth : Method} {c : Code} {Z : ra_R} {c0 : ra_Sp}  (h0 : ra_MOK l X mi_R_has c0) (F : ra_Fx X p rm_V_readRings s m args c prog_10_method_13_code 5 cn_V) (hr : meth.sig.returnType = none) (hlk : meth.locks = false) {I : Nat → ra_K} (hI : ∀ t ∈ [2, 17], ra_At X p l e rm_V_readRings s m args below meth c 5 (MQ below (ra_Qc X Z) args s 0 0 (ra_A X)) (I t) t) : ra_At X p l e rm_V_readRings s m args below meth c 5 (MQ below (ra_Qc X Z) args s 0 0 (ra_A X)) (b_V_readRings_34 c0 I Z) 34 :=
  r_iload_n F d_V_readRings_34 rfl <| r_iconst F d_V_readRings_35 (by decide) <| r_iload_n F d_V_readRings_36 rfl <| r_ishl F d_V_readRings_37 <| r_ior F d_V_readRings_38 <| r_istore_n F d_V_readRings_39 rfl (by decide) <| r_aload_n F d_V_readRings_40 rfl <| r_getR F cg_V (j := 5) (by decide) rfl fl_V_33 d_V_readRings_41 <| r_iload_n F d_V_readRings_44 rfl <| r_iaload F d_V_readRings_45 <| r_istore_n F d_V_readRings_46 rfl (by decide) <| r_iinc F d_V_readRings_47 (by decide) (by decide) <| r_goto F d_V_readRings_50 (by decide) (hI 17 (by decide))
theorem o_V_readRings_26 {X : ra_X} {p : Program} {l : Launch} {e : Env} {s : State} {m : MethodId} {args : Array Value} {below : List Frame} {meth : Method} {c : Code} {Z : ra_R} {c0 : ra_Sp}  (h0 : ra_MOK l X mi_R_has c0) (F : ra_Fx X p rm_V_readRings s m args c prog_10_method_13_code 5 cn_V) (hr : meth.sig.returnType = none) (hlk : meth.locks = false) {I : Nat → ra_K} (hI : ∀ t ∈ [2, 17], ra_At X p l e rm_V_readRings s m args below meth c 5 (MQ below (ra_Qc X Z) args s 0 0 (ra_A X)) (I t) t) : ra_At X p l e rm_V_readRings s m args below meth c 5 (MQ below (ra_Qc X Z) args s 0 0 (ra_A X)) (b_V_readRings_26 c0 I Z) 26 :=
  r_iload_n F d_V_readRings_26 rfl <| r_iload_n F d_V_readRings_27 rfl <| r_callSN F h0 (co_R_has (by decide +kernel) (by decide +kernel)) ⟨rfl, by decide +kernel⟩ (host := "RoofAcross") (by decide +kernel) st_R_has d_V_readRings_28 <| r_if_ne F d_V_readRings_31 (by decide) (o_V_readRings_53 h0 F hr hlk hI) (o_V_readRings_34 h0 F hr hlk hI)
theorem o_V_readRings_17 {X : ra_X} {p : Program} {l : Launch} {e : Env} {s : State} {m : MethodId} {args : Array Value} {below : List Frame} {meth : Method} {c : Code} {Z : ra_R} {c0 : ra_Sp}  (h0 : ra_MOK l X mi_R_has c0) (F : ra_Fx X p rm_V_readRings s m args c prog_10_method_13_code 5 cn_V) (hr : meth.sig.returnType = none) (hlk : meth.locks = false) {I : Nat → ra_K} (hI : ∀ t ∈ [2, 17], ra_At X p l e rm_V_readRings s m args below meth c 5 (MQ below (ra_Qc X Z) args s 0 0 (ra_A X)) (I t) t) : ra_At X p l e rm_V_readRings s m args below meth c 5 (MQ below (ra_Qc X Z) args s 0 0 (ra_A X)) (b_V_readRings_17 c0 I Z) 17 :=
  r_iload F d_V_readRings_17 <| r_aload_n F d_V_readRings_19 rfl <| r_getI F cg_V (j := 8) (by decide) rfl fl_V_61 d_V_readRings_20 <| r_icmp_ge F d_V_readRings_23 (by decide) (o_V_readRings_53 h0 F hr hlk hI) (o_V_readRings_26 h0 F hr hlk hI)
theorem o_V_readRings_10 {X : ra_X} {p : Program} {l : Launch} {e : Env} {s : State} {m : MethodId} {args : Array Value} {below : List Frame} {meth : Method} {c : Code} {Z : ra_R} {c0 : ra_Sp}  (h0 : ra_MOK l X mi_R_has c0) (F : ra_Fx X p rm_V_readRings s m args c prog_10_method_13_code 5 cn_V) (hr : meth.sig.returnType = none) (hlk : meth.locks = false) {I : Nat → ra_K} (hI : ∀ t ∈ [2, 17], ra_At X p l e rm_V_readRings s m args below meth c 5 (MQ below (ra_Qc X Z) args s 0 0 (ra_A X)) (I t) t) : ra_At X p l e rm_V_readRings s m args below meth c 5 (MQ below (ra_Qc X Z) args s 0 0 (ra_A X)) (b_V_readRings_10 c0 I Z) 10 :=
  r_iconst F d_V_readRings_10 (by decide) <| r_istore_n F d_V_readRings_11 rfl (by decide) <| r_iload_n F d_V_readRings_12 rfl <| r_istore_n F d_V_readRings_13 rfl (by decide) <| r_iconst F d_V_readRings_14 (by decide) <| r_istore F d_V_readRings_15 (by decide) <| (hI 17 (by decide))
theorem o_V_readRings_2 {X : ra_X} {p : Program} {l : Launch} {e : Env} {s : State} {m : MethodId} {args : Array Value} {below : List Frame} {meth : Method} {c : Code} {Z : ra_R} {c0 : ra_Sp}  (h0 : ra_MOK l X mi_R_has c0) (F : ra_Fx X p rm_V_readRings s m args c prog_10_method_13_code 5 cn_V) (hr : meth.sig.returnType = none) (hlk : meth.locks = false) {I : Nat → ra_K} (hI : ∀ t ∈ [2, 17], ra_At X p l e rm_V_readRings s m args below meth c 5 (MQ below (ra_Qc X Z) args s 0 0 (ra_A X)) (I t) t) : ra_At X p l e rm_V_readRings s m args below meth c 5 (MQ below (ra_Qc X Z) args s 0 0 (ra_A X)) (b_V_readRings_2 c0 I Z) 2 :=
  r_iload_n F d_V_readRings_2 rfl <| r_aload_n F d_V_readRings_3 rfl <| r_getI F cg_V (j := 8) (by decide) rfl fl_V_61 d_V_readRings_4 <| r_icmp_ge F d_V_readRings_7 (by decide) (o_V_readRings_66 h0 F hr hlk hI) (o_V_readRings_10 h0 F hr hlk hI)
theorem o_V_readRings_0 {X : ra_X} {p : Program} {l : Launch} {e : Env} {s : State} {m : MethodId} {args : Array Value} {below : List Frame} {meth : Method} {c : Code} {Z : ra_R} {c0 : ra_Sp}  (h0 : ra_MOK l X mi_R_has c0) (F : ra_Fx X p rm_V_readRings s m args c prog_10_method_13_code 5 cn_V) (hr : meth.sig.returnType = none) (hlk : meth.locks = false) {I : Nat → ra_K} (hI : ∀ t ∈ [2, 17], ra_At X p l e rm_V_readRings s m args below meth c 5 (MQ below (ra_Qc X Z) args s 0 0 (ra_A X)) (I t) t) : ra_At X p l e rm_V_readRings s m args below meth c 5 (MQ below (ra_Qc X Z) args s 0 0 (ra_A X)) (b_V_readRings_0 c0 I Z) 0 :=
  r_iconst F d_V_readRings_0 (by decide) <| r_istore_n F d_V_readRings_1 rfl (by decide) <| (hI 2 (by decide))
theorem g_V_readRings {l : Launch} {X : ra_X} {c0 : ra_Sp}  (h0 : ra_MOK l X mi_R_has c0) (sp : ra_Sp) (I : ra_R → List Value → ra_St → Nat → ra_M → ra_K) (ve : ∀ as σ Z, ra_c1 as = true → as.length = 1 → sp as σ Z → b_V_readRings_0 c0 (ra_I (I Z as σ)) Z (ra_pad 5 as) [] σ) (v2 : ∀ as σ Z, sp as σ Z → ∀ μ L S σ1, I Z as σ 2 μ L S σ1 → b_V_readRings_2 c0 (ra_J (I Z as σ) μ) Z L S σ1) (v17 : ∀ as σ Z, sp as σ Z → ∀ μ L S σ1, I Z as σ 17 μ L S σ1 → b_V_readRings_17 c0 (ra_J (I Z as σ) μ) Z L S σ1) : ra_MOK l X mi_V_readRings sp := by
  refine ra_enter (k := fun Z as σ => b_V_readRings_0 c0 (ra_I (I Z as σ)) Z) cn_V rfl (by decide +kernel) ⟨by decide +kernel, by decide +kernel⟩ (by decide +kernel) ?_ ve
  intro p e s m args below meth c Z as σ hsp F hr hlk
  refine o_V_readRings_0 h0 F hr hlk (ra_cuts (b := fun t J => if t = 2 then b_V_readRings_2 c0 J Z else if t = 17 then b_V_readRings_17 c0 J Z else fun _ _ _ => False) ?_ ?_)
  · intro t ht J hJ
    simp only [List.mem_cons, List.not_mem_nil, or_false] at ht
    rcases ht with rfl | rfl
    · exact o_V_readRings_2 h0 F hr hlk hJ
    · exact o_V_readRings_17 h0 F hr hlk hJ
  · intro t ht μ L S σ1 hI
    simp only [List.mem_cons, List.not_mem_nil, or_false] at ht
    rcases ht with rfl | rfl
    · exact v2 as σ Z hsp μ L S σ1 hI
    · exact v17 as σ Z hsp μ L S σ1 hI

theorem d_V_readTexts_0 : decode prog_10_method_6_code 0 = .ok (.aload_n 0, 1) := by decide +kernel
theorem d_V_readTexts_1 : decode prog_10_method_6_code 1 = .ok (.dup, 1) := by decide +kernel
theorem d_V_readTexts_2 : decode prog_10_method_6_code 2 = .ok (.getfield 64, 3) := by decide +kernel
theorem d_V_readTexts_5 : decode prog_10_method_6_code 5 = .ok (.iconst 1, 1) := by decide +kernel
theorem d_V_readTexts_6 : decode prog_10_method_6_code 6 = .ok (.iadd, 1) := by decide +kernel
theorem d_V_readTexts_7 : decode prog_10_method_6_code 7 = .ok (.putfield 64, 3) := by decide +kernel
theorem d_V_readTexts_10 : decode prog_10_method_6_code 10 = .ok (.aload_n 0, 1) := by decide +kernel
theorem d_V_readTexts_11 : decode prog_10_method_6_code 11 = .ok (.aload_n 0, 1) := by decide +kernel
theorem d_V_readTexts_12 : decode prog_10_method_6_code 12 = .ok (.invokevirtual 67, 3) := by decide +kernel
theorem d_V_readTexts_15 : decode prog_10_method_6_code 15 = .ok (.putfield 42, 3) := by decide +kernel
theorem d_V_readTexts_18 : decode prog_10_method_6_code 18 = .ok (.aload_n 0, 1) := by decide +kernel
theorem d_V_readTexts_19 : decode prog_10_method_6_code 19 = .ok (.invokevirtual 71, 3) := by decide +kernel
theorem d_V_readTexts_22 : decode prog_10_method_6_code 22 = .ok (.aload_n 0, 1) := by decide +kernel
theorem d_V_readTexts_23 : decode prog_10_method_6_code 23 = .ok (.aload_n 0, 1) := by decide +kernel
theorem d_V_readTexts_24 : decode prog_10_method_6_code 24 = .ok (.invokevirtual 74, 3) := by decide +kernel
theorem d_V_readTexts_27 : decode prog_10_method_6_code 27 = .ok (.putfield 46, 3) := by decide +kernel
theorem d_V_readTexts_30 : decode prog_10_method_6_code 30 = .ok (.aload_n 0, 1) := by decide +kernel
theorem d_V_readTexts_31 : decode prog_10_method_6_code 31 = .ok (.invokevirtual 77, 3) := by decide +kernel
theorem d_V_readTexts_34 : decode prog_10_method_6_code 34 = .ok (.aload_n 0, 1) := by decide +kernel
theorem d_V_readTexts_35 : decode prog_10_method_6_code 35 = .ok (.invokevirtual 80, 3) := by decide +kernel
theorem d_V_readTexts_38 : decode prog_10_method_6_code 38 = .ok (.return_, 1) := by decide +kernel
def b_V_readTexts_0 (c0 c1 c2 c3 c4 : ra_Sp) (Z : ra_R) : ra_K := w_al 0 <| w_dup <| w_gi 1 11 <| w_c 1 <| w_i2 (fun x y => x + y) <| w_pi 1 11 <| w_al 0 <| w_al 0 <| w_cv c0 1 1 <| w_pi 1 9 <| w_al 0 <| w_cv c1 1 1 <| w_al 0 <| w_al 0 <| w_cv c2 1 1 <| w_pi 1 10 <| w_al 0 <| w_cv c3 1 1 <| w_al 0 <| w_cv c4 1 1 <| w_vr Z
theorem o_V_readTexts_0 {X : ra_X} {p : Program} {l : Launch} {e : Env} {s : State} {m : MethodId} {args : Array Value} {below : List Frame} {meth : Method} {c : Code} {Z : ra_R} {c0 c1 c2 c3 c4 : ra_Sp}  (h0 : ra_MOK l X mi_V_findHousesFault c0) (h1 : ra_MOK l X mi_V_readHouses c1) (h2 : ra_MOK l X mi_V_findLotsFault c2) (h3 : ra_MOK l X mi_V_readLots c3) (h4 : ra_MOK l X mi_V_readRings c4) (F : ra_Fx X p rm_V_readTexts s m args c prog_10_method_6_code 1 cn_V) (hr : meth.sig.returnType = none) (hlk : meth.locks = false) : ra_At X p l e rm_V_readTexts s m args below meth c 1 (MQ below (ra_Qc X Z) args s 0 0 (ra_A X)) (b_V_readTexts_0 c0 c1 c2 c3 c4 Z) 0 :=
  r_aload_n F d_V_readTexts_0 rfl <| r_dup F d_V_readTexts_1 <| r_getI F cg_V (j := 11) (by decide) rfl fl_V_64 d_V_readTexts_2 <| r_iconst F d_V_readTexts_5 (by decide) <| r_iadd F d_V_readTexts_6 <| r_putI F cg_V (j := 11) (by decide) rfl rfl rfl fl_V_64 d_V_readTexts_7 <| r_aload_n F d_V_readTexts_10 rfl <| r_aload_n F d_V_readTexts_11 rfl <| r_callV F h0 (co_V_findHousesFault (by decide +kernel) (by decide +kernel)) ⟨rfl, by decide +kernel⟩ ⟨rfl, by decide⟩ ml_V_67 im_V_findHousesFault se_V_findHousesFault d_V_readTexts_12 <| r_putI F cg_V (j := 9) (by decide) rfl rfl rfl fl_V_42 d_V_readTexts_15 <| r_aload_n F d_V_readTexts_18 rfl <| r_callV F h1 (co_V_readHouses (by decide +kernel) (by decide +kernel)) ⟨rfl, by decide +kernel⟩ ⟨rfl, by decide⟩ ml_V_71 im_V_readHouses se_V_readHouses d_V_readTexts_19 <| r_aload_n F d_V_readTexts_22 rfl <| r_aload_n F d_V_readTexts_23 rfl <| r_callV F h2 (co_V_findLotsFault (by decide +kernel) (by decide +kernel)) ⟨rfl, by decide +kernel⟩ ⟨rfl, by decide⟩ ml_V_74 im_V_findLotsFault se_V_findLotsFault d_V_readTexts_24 <| r_putI F cg_V (j := 10) (by decide) rfl rfl rfl fl_V_46 d_V_readTexts_27 <| r_aload_n F d_V_readTexts_30 rfl <| r_callV F h3 (co_V_readLots (by decide +kernel) (by decide +kernel)) ⟨rfl, by decide +kernel⟩ ⟨rfl, by decide⟩ ml_V_77 im_V_readLots se_V_readLots d_V_readTexts_31 <| r_aload_n F d_V_readTexts_34 rfl <| r_callV F h4 (co_V_readRings (by decide +kernel) (by decide +kernel)) ⟨rfl, by decide +kernel⟩ ⟨rfl, by decide⟩ ml_V_80 im_V_readRings se_V_readRings d_V_readTexts_35 <| r_return F hr hlk d_V_readTexts_38
theorem g_V_readTexts {l : Launch} {X : ra_X} {c0 c1 c2 c3 c4 : ra_Sp}  (h0 : ra_MOK l X mi_V_findHousesFault c0) (h1 : ra_MOK l X mi_V_readHouses c1) (h2 : ra_MOK l X mi_V_findLotsFault c2) (h3 : ra_MOK l X mi_V_readLots c3) (h4 : ra_MOK l X mi_V_readRings c4) (sp : ra_Sp) (ve : ∀ as σ Z, ra_c1 as = true → as.length = 1 → sp as σ Z → b_V_readTexts_0 c0 c1 c2 c3 c4 Z (ra_pad 1 as) [] σ) : ra_MOK l X mi_V_readTexts sp := by
  refine ra_enter (k := fun Z as σ => b_V_readTexts_0 c0 c1 c2 c3 c4 Z) cn_V rfl (by decide +kernel) ⟨by decide +kernel, by decide +kernel⟩ (by decide +kernel) ?_ ve
  intro p e s m args below meth c Z as σ hsp F hr hlk
  exact o_V_readTexts_0 h0 h1 h2 h3 h4 F hr hlk

theorem d_V_append_0 : decode prog_10_method_3_code 0 = .ok (.aload_n 1, 1) := by decide +kernel
theorem d_V_append_1 : decode prog_10_method_3_code 1 = .ok (.getfield 49, 3) := by decide +kernel
theorem d_V_append_4 : decode prog_10_method_3_code 4 = .ok (.aload_n 1, 1) := by decide +kernel
theorem d_V_append_5 : decode prog_10_method_3_code 5 = .ok (.getfield 52, 3) := by decide +kernel
theorem d_V_append_8 : decode prog_10_method_3_code 8 = .ok (.if_icmp .lt 6, 3) := by decide +kernel
theorem d_V_append_11 : decode prog_10_method_3_code 11 = .ok (.bipush (-4), 2) := by decide +kernel
theorem d_V_append_13 : decode prog_10_method_3_code 13 = .ok (.ireturn, 1) := by decide +kernel
theorem d_V_append_14 : decode prog_10_method_3_code 14 = .ok (.aload_n 1, 1) := by decide +kernel
theorem d_V_append_15 : decode prog_10_method_3_code 15 = .ok (.getfield 55, 3) := by decide +kernel
theorem d_V_append_18 : decode prog_10_method_3_code 18 = .ok (.aload_n 1, 1) := by decide +kernel
theorem d_V_append_19 : decode prog_10_method_3_code 19 = .ok (.getfield 49, 3) := by decide +kernel
theorem d_V_append_22 : decode prog_10_method_3_code 22 = .ok (.iload_n 2, 1) := by decide +kernel
theorem d_V_append_23 : decode prog_10_method_3_code 23 = .ok (.iastore, 1) := by decide +kernel
theorem d_V_append_24 : decode prog_10_method_3_code 24 = .ok (.aload_n 1, 1) := by decide +kernel
theorem d_V_append_25 : decode prog_10_method_3_code 25 = .ok (.dup, 1) := by decide +kernel
theorem d_V_append_26 : decode prog_10_method_3_code 26 = .ok (.getfield 49, 3) := by decide +kernel
theorem d_V_append_29 : decode prog_10_method_3_code 29 = .ok (.iconst 1, 1) := by decide +kernel
theorem d_V_append_30 : decode prog_10_method_3_code 30 = .ok (.iadd, 1) := by decide +kernel
theorem d_V_append_31 : decode prog_10_method_3_code 31 = .ok (.putfield 49, 3) := by decide +kernel
theorem d_V_append_34 : decode prog_10_method_3_code 34 = .ok (.aload_n 0, 1) := by decide +kernel
theorem d_V_append_35 : decode prog_10_method_3_code 35 = .ok (.invokevirtual 58, 3) := by decide +kernel
theorem d_V_append_38 : decode prog_10_method_3_code 38 = .ok (.aload_n 1, 1) := by decide +kernel
theorem d_V_append_39 : decode prog_10_method_3_code 39 = .ok (.getfield 49, 3) := by decide +kernel
theorem d_V_append_42 : decode prog_10_method_3_code 42 = .ok (.ireturn, 1) := by decide +kernel
def b_V_append_14 (c0 : ra_Sp) (Z : ra_R) : ra_K := w_al 1 <| w_gr 2 0 <| w_al 1 <| w_gi 2 2 <| w_il 2 <| w_ast <| w_al 1 <| w_dup <| w_gi 2 2 <| w_c 1 <| w_i2 (fun x y => x + y) <| w_pi 2 2 <| w_al 0 <| w_cv c0 1 1 <| w_al 1 <| w_gi 2 2 <| w_ir Z
def b_V_append_11 (c0 : ra_Sp) (Z : ra_R) : ra_K := w_c (-4) <| w_ir Z
def b_V_append_0 (c0 : ra_Sp) (Z : ra_R) : ra_K := w_al 1 <| w_gi 2 2 <| w_al 1 <| w_gi 2 1 <| w_b2 (fun x y => x < y) (b_V_append_14 c0 Z) (b_V_append_11 c0 Z)
theorem o_V_append_14 {X : ra_X} {p : Program} {l : Launch} {e : Env} {s : State} {m : MethodId} {args : Array Value} {below : List Frame} {meth : Method} {c : Code} {Z : ra_R} {c0 : ra_Sp}  (h0 : ra_MOK l X mi_V_readTexts c0) (F : ra_Fx X p rm_V_append s m args c prog_10_method_3_code 3 cn_V) (hr : meth.sig.returnType = (some .int)) (hlk : meth.locks = false) : ra_At X p l e rm_V_append s m args below meth c 3 (MQ below (ra_Qc X Z) args s 0 0 (ra_A X)) (b_V_append_14 c0 Z) 14 :=
  r_aload_n F d_V_append_14 rfl <| r_getR F cg_T (j := 0) (by decide) rfl fl_V_55 d_V_append_15 <| r_aload_n F d_V_append_18 rfl <| r_getI F cg_T (j := 2) (by decide) rfl fl_V_49 d_V_append_19 <| r_iload_n F d_V_append_22 rfl <| r_iastore F d_V_append_23 <| r_aload_n F d_V_append_24 rfl <| r_dup F d_V_append_25 <| r_getI F cg_T (j := 2) (by decide) rfl fl_V_49 d_V_append_26 <| r_iconst F d_V_append_29 (by decide) <| r_iadd F d_V_append_30 <| r_putI F cg_T (j := 2) (by decide) rfl rfl rfl fl_V_49 d_V_append_31 <| r_aload_n F d_V_append_34 rfl <| r_callV F h0 (co_V_readTexts (by decide +kernel) (by decide +kernel)) ⟨rfl, by decide +kernel⟩ ⟨rfl, by decide⟩ ml_V_58 im_V_readTexts se_V_readTexts d_V_append_35 <| r_aload_n F d_V_append_38 rfl <| r_getI F cg_T (j := 2) (by decide) rfl fl_V_49 d_V_append_39 <| r_ireturn F hr hlk d_V_append_42
theorem o_V_append_11 {X : ra_X} {p : Program} {l : Launch} {e : Env} {s : State} {m : MethodId} {args : Array Value} {below : List Frame} {meth : Method} {c : Code} {Z : ra_R} {c0 : ra_Sp}  (h0 : ra_MOK l X mi_V_readTexts c0) (F : ra_Fx X p rm_V_append s m args c prog_10_method_3_code 3 cn_V) (hr : meth.sig.returnType = (some .int)) (hlk : meth.locks = false) : ra_At X p l e rm_V_append s m args below meth c 3 (MQ below (ra_Qc X Z) args s 0 0 (ra_A X)) (b_V_append_11 c0 Z) 11 :=
  r_bipush F d_V_append_11 (by decide) <| r_ireturn F hr hlk d_V_append_13
theorem o_V_append_0 {X : ra_X} {p : Program} {l : Launch} {e : Env} {s : State} {m : MethodId} {args : Array Value} {below : List Frame} {meth : Method} {c : Code} {Z : ra_R} {c0 : ra_Sp}  (h0 : ra_MOK l X mi_V_readTexts c0) (F : ra_Fx X p rm_V_append s m args c prog_10_method_3_code 3 cn_V) (hr : meth.sig.returnType = (some .int)) (hlk : meth.locks = false) : ra_At X p l e rm_V_append s m args below meth c 3 (MQ below (ra_Qc X Z) args s 0 0 (ra_A X)) (b_V_append_0 c0 Z) 0 :=
  r_aload_n F d_V_append_0 rfl <| r_getI F cg_T (j := 2) (by decide) rfl fl_V_49 d_V_append_1 <| r_aload_n F d_V_append_4 rfl <| r_getI F cg_T (j := 1) (by decide) rfl fl_V_52 d_V_append_5 <| r_icmp_lt F d_V_append_8 (by decide) (o_V_append_14 h0 F hr hlk) (o_V_append_11 h0 F hr hlk)
theorem g_V_append {l : Launch} {X : ra_X} {c0 : ra_Sp}  (h0 : ra_MOK l X mi_V_readTexts c0) (sp : ra_Sp) (ve : ∀ as σ Z, ra_c1 as = true → as.length = 3 → sp as σ Z → b_V_append_0 c0 Z (ra_pad 3 as) [] σ) : ra_MOK l X mi_V_append sp := by
  refine ra_enter (k := fun Z as σ => b_V_append_0 c0 Z) cn_V rfl (by decide +kernel) ⟨by decide +kernel, by decide +kernel⟩ (by decide +kernel) ?_ ve
  intro p e s m args below meth c Z as σ hsp F hr hlk
  exact o_V_append_0 h0 F hr hlk

theorem d_R_type_0 : decode prog_1_method_2_code 0 = .ok (.iload_n 1, 1) := by decide +kernel
theorem d_R_type_1 : decode prog_1_method_2_code 1 = .ok (.iconst 0, 1) := by decide +kernel
theorem d_R_type_2 : decode prog_1_method_2_code 2 = .ok (.iconst 1, 1) := by decide +kernel
theorem d_R_type_3 : decode prog_1_method_2_code 3 = .ok (.invokestatic 73, 3) := by decide +kernel
theorem d_R_type_6 : decode prog_1_method_2_code 6 = .ok (.ifCond .ne 14, 3) := by decide +kernel
theorem d_R_type_9 : decode prog_1_method_2_code 9 = .ok (.iload_n 2, 1) := by decide +kernel
theorem d_R_type_10 : decode prog_1_method_2_code 10 = .ok (.iconst 0, 1) := by decide +kernel
theorem d_R_type_11 : decode prog_1_method_2_code 11 = .ok (.sipush 255, 3) := by decide +kernel
theorem d_R_type_14 : decode prog_1_method_2_code 14 = .ok (.invokestatic 73, 3) := by decide +kernel
theorem d_R_type_17 : decode prog_1_method_2_code 17 = .ok (.ifCond .eq 6, 3) := by decide +kernel
theorem d_R_type_20 : decode prog_1_method_2_code 20 = .ok (.bipush (-2), 2) := by decide +kernel
theorem d_R_type_22 : decode prog_1_method_2_code 22 = .ok (.ireturn, 1) := by decide +kernel
theorem d_R_type_23 : decode prog_1_method_2_code 23 = .ok (.aload_n 0, 1) := by decide +kernel
theorem d_R_type_24 : decode prog_1_method_2_code 24 = .ok (.getfield 12, 3) := by decide +kernel
theorem d_R_type_27 : decode prog_1_method_2_code 27 = .ok (.aload_n 0, 1) := by decide +kernel
theorem d_R_type_28 : decode prog_1_method_2_code 28 = .ok (.getfield 12, 3) := by decide +kernel
theorem d_R_type_31 : decode prog_1_method_2_code 31 = .ok (.iload_n 1, 1) := by decide +kernel
theorem d_R_type_32 : decode prog_1_method_2_code 32 = .ok (.invokevirtual 77, 3) := by decide +kernel
theorem d_R_type_35 : decode prog_1_method_2_code 35 = .ok (.iload_n 2, 1) := by decide +kernel
theorem d_R_type_36 : decode prog_1_method_2_code 36 = .ok (.invokevirtual 81, 3) := by decide +kernel
theorem d_R_type_39 : decode prog_1_method_2_code 39 = .ok (.ireturn, 1) := by decide +kernel
def b_R_type_23 (c0 c1 c2 : ra_Sp) (Z : ra_R) : ra_K := w_al 0 <| w_gr 0 0 <| w_al 0 <| w_gr 0 0 <| w_il 1 <| w_cv c1 2 1 <| w_il 2 <| w_cv c2 3 1 <| w_ir Z
def b_R_type_20 (c0 c1 c2 : ra_Sp) (Z : ra_R) : ra_K := w_c (-2) <| w_ir Z
def b_R_type_9 (c0 c1 c2 : ra_Sp) (Z : ra_R) : ra_K := w_il 2 <| w_c 0 <| w_c 255 <| w_cs c0 3 <| w_b1 (fun x => x = 0) (b_R_type_23 c0 c1 c2 Z) (b_R_type_20 c0 c1 c2 Z)
def b_R_type_0 (c0 c1 c2 : ra_Sp) (Z : ra_R) : ra_K := w_il 1 <| w_c 0 <| w_c 1 <| w_cs c0 3 <| w_b1 (fun x => x = 0) (b_R_type_9 c0 c1 c2 Z) (b_R_type_20 c0 c1 c2 Z)
theorem o_R_type_23 {X : ra_X} {p : Program} {l : Launch} {e : Env} {s : State} {m : MethodId} {args : Array Value} {below : List Frame} {meth : Method} {c : Code} {Z : ra_R} {c0 c1 c2 : ra_Sp}  (h0 : ra_MOK l X mi_R_isOutside c0) (h1 : ra_MOK l X mi_V_textOf c1) (h2 : ra_MOK l X mi_V_append c2) (F : ra_Fx X p rm_R_type s m args c prog_1_method_2_code 3 cn_R) (hr : meth.sig.returnType = (some .int)) (hlk : meth.locks = false) : ra_At X p l e rm_R_type s m args below meth c 3 (MQ below (ra_Qc X Z) args s 0 0 (ra_A X)) (b_R_type_23 c0 c1 c2 Z) 23 :=
  r_aload_n F d_R_type_23 rfl <| r_getR F cg_R (j := 0) (by decide) rfl fl_R_12 d_R_type_24 <| r_aload_n F d_R_type_27 rfl <| r_getR F cg_R (j := 0) (by decide) rfl fl_R_12 d_R_type_28 <| r_iload_n F d_R_type_31 rfl <| r_callV F h1 (co_V_textOf (by decide +kernel) (by decide +kernel)) ⟨rfl, by decide +kernel⟩ ⟨rfl, by decide⟩ ml_R_77 im_V_textOf se_V_textOf d_R_type_32 <| r_iload_n F d_R_type_35 rfl <| r_callV F h2 (co_V_append (by decide +kernel) (by decide +kernel)) ⟨rfl, by decide +kernel⟩ ⟨rfl, by decide⟩ ml_R_81 im_V_append se_V_append d_R_type_36 <| r_ireturn F hr hlk d_R_type_39
theorem o_R_type_20 {X : ra_X} {p : Program} {l : Launch} {e : Env} {s : State} {m : MethodId} {args : Array Value} {below : List Frame} {meth : Method} {c : Code} {Z : ra_R} {c0 c1 c2 : ra_Sp}  (h0 : ra_MOK l X mi_R_isOutside c0) (h1 : ra_MOK l X mi_V_textOf c1) (h2 : ra_MOK l X mi_V_append c2) (F : ra_Fx X p rm_R_type s m args c prog_1_method_2_code 3 cn_R) (hr : meth.sig.returnType = (some .int)) (hlk : meth.locks = false) : ra_At X p l e rm_R_type s m args below meth c 3 (MQ below (ra_Qc X Z) args s 0 0 (ra_A X)) (b_R_type_20 c0 c1 c2 Z) 20 :=
  r_bipush F d_R_type_20 (by decide) <| r_ireturn F hr hlk d_R_type_22
theorem o_R_type_9 {X : ra_X} {p : Program} {l : Launch} {e : Env} {s : State} {m : MethodId} {args : Array Value} {below : List Frame} {meth : Method} {c : Code} {Z : ra_R} {c0 c1 c2 : ra_Sp}  (h0 : ra_MOK l X mi_R_isOutside c0) (h1 : ra_MOK l X mi_V_textOf c1) (h2 : ra_MOK l X mi_V_append c2) (F : ra_Fx X p rm_R_type s m args c prog_1_method_2_code 3 cn_R) (hr : meth.sig.returnType = (some .int)) (hlk : meth.locks = false) : ra_At X p l e rm_R_type s m args below meth c 3 (MQ below (ra_Qc X Z) args s 0 0 (ra_A X)) (b_R_type_9 c0 c1 c2 Z) 9 :=
  r_iload_n F d_R_type_9 rfl <| r_iconst F d_R_type_10 (by decide) <| r_sipush F d_R_type_11 (by decide) <| r_callS F h0 (co_R_isOutside (by decide +kernel) (by decide +kernel)) ⟨rfl, by decide +kernel⟩ ml_R_73 st_R_isOutside d_R_type_14 <| r_if_eq F d_R_type_17 (by decide) (o_R_type_23 h0 h1 h2 F hr hlk) (o_R_type_20 h0 h1 h2 F hr hlk)
theorem o_R_type_0 {X : ra_X} {p : Program} {l : Launch} {e : Env} {s : State} {m : MethodId} {args : Array Value} {below : List Frame} {meth : Method} {c : Code} {Z : ra_R} {c0 c1 c2 : ra_Sp}  (h0 : ra_MOK l X mi_R_isOutside c0) (h1 : ra_MOK l X mi_V_textOf c1) (h2 : ra_MOK l X mi_V_append c2) (F : ra_Fx X p rm_R_type s m args c prog_1_method_2_code 3 cn_R) (hr : meth.sig.returnType = (some .int)) (hlk : meth.locks = false) : ra_At X p l e rm_R_type s m args below meth c 3 (MQ below (ra_Qc X Z) args s 0 0 (ra_A X)) (b_R_type_0 c0 c1 c2 Z) 0 :=
  r_iload_n F d_R_type_0 rfl <| r_iconst F d_R_type_1 (by decide) <| r_iconst F d_R_type_2 (by decide) <| r_callS F h0 (co_R_isOutside (by decide +kernel) (by decide +kernel)) ⟨rfl, by decide +kernel⟩ ml_R_73 st_R_isOutside d_R_type_3 <| r_if_ne F d_R_type_6 (by decide) (o_R_type_20 h0 h1 h2 F hr hlk) (o_R_type_9 h0 h1 h2 F hr hlk)
theorem g_R_type {l : Launch} {X : ra_X} {c0 c1 c2 : ra_Sp}  (h0 : ra_MOK l X mi_R_isOutside c0) (h1 : ra_MOK l X mi_V_textOf c1) (h2 : ra_MOK l X mi_V_append c2) (sp : ra_Sp) (ve : ∀ as σ Z, ra_c1 as = true → as.length = 3 → sp as σ Z → b_R_type_0 c0 c1 c2 Z (ra_pad 3 as) [] σ) : ra_MOK l X mi_R_type sp := by
  refine ra_enter (k := fun Z as σ => b_R_type_0 c0 c1 c2 Z) cn_R rfl (by decide +kernel) ⟨by decide +kernel, by decide +kernel⟩ (by decide +kernel) ?_ ve
  intro p e s m args below meth c Z as σ hsp F hr hlk
  exact o_R_type_0 h0 h1 h2 F hr hlk

theorem d_V_clear_0 : decode prog_10_method_4_code 0 = .ok (.aload_n 1, 1) := by decide +kernel
theorem d_V_clear_1 : decode prog_10_method_4_code 1 = .ok (.getfield 49, 3) := by decide +kernel
theorem d_V_clear_4 : decode prog_10_method_4_code 4 = .ok (.istore_n 2, 1) := by decide +kernel
theorem d_V_clear_5 : decode prog_10_method_4_code 5 = .ok (.aload_n 1, 1) := by decide +kernel
theorem d_V_clear_6 : decode prog_10_method_4_code 6 = .ok (.iconst 0, 1) := by decide +kernel
theorem d_V_clear_7 : decode prog_10_method_4_code 7 = .ok (.putfield 49, 3) := by decide +kernel
theorem d_V_clear_10 : decode prog_10_method_4_code 10 = .ok (.aload_n 0, 1) := by decide +kernel
theorem d_V_clear_11 : decode prog_10_method_4_code 11 = .ok (.invokevirtual 58, 3) := by decide +kernel
theorem d_V_clear_14 : decode prog_10_method_4_code 14 = .ok (.iload_n 2, 1) := by decide +kernel
theorem d_V_clear_15 : decode prog_10_method_4_code 15 = .ok (.ireturn, 1) := by decide +kernel
def b_V_clear_0 (c0 : ra_Sp) (Z : ra_R) : ra_K := w_al 1 <| w_gi 2 2 <| w_is 2 <| w_al 1 <| w_c 0 <| w_pi 2 2 <| w_al 0 <| w_cv c0 1 1 <| w_il 2 <| w_ir Z
theorem o_V_clear_0 {X : ra_X} {p : Program} {l : Launch} {e : Env} {s : State} {m : MethodId} {args : Array Value} {below : List Frame} {meth : Method} {c : Code} {Z : ra_R} {c0 : ra_Sp}  (h0 : ra_MOK l X mi_V_readTexts c0) (F : ra_Fx X p rm_V_clear s m args c prog_10_method_4_code 3 cn_V) (hr : meth.sig.returnType = (some .int)) (hlk : meth.locks = false) : ra_At X p l e rm_V_clear s m args below meth c 3 (MQ below (ra_Qc X Z) args s 0 0 (ra_A X)) (b_V_clear_0 c0 Z) 0 :=
  r_aload_n F d_V_clear_0 rfl <| r_getI F cg_T (j := 2) (by decide) rfl fl_V_49 d_V_clear_1 <| r_istore_n F d_V_clear_4 rfl (by decide) <| r_aload_n F d_V_clear_5 rfl <| r_iconst F d_V_clear_6 (by decide) <| r_putI F cg_T (j := 2) (by decide) rfl rfl rfl fl_V_49 d_V_clear_7 <| r_aload_n F d_V_clear_10 rfl <| r_callV F h0 (co_V_readTexts (by decide +kernel) (by decide +kernel)) ⟨rfl, by decide +kernel⟩ ⟨rfl, by decide⟩ ml_V_58 im_V_readTexts se_V_readTexts d_V_clear_11 <| r_iload_n F d_V_clear_14 rfl <| r_ireturn F hr hlk d_V_clear_15
theorem g_V_clear {l : Launch} {X : ra_X} {c0 : ra_Sp}  (h0 : ra_MOK l X mi_V_readTexts c0) (sp : ra_Sp) (ve : ∀ as σ Z, ra_c1 as = true → as.length = 2 → sp as σ Z → b_V_clear_0 c0 Z (ra_pad 3 as) [] σ) : ra_MOK l X mi_V_clear sp := by
  refine ra_enter (k := fun Z as σ => b_V_clear_0 c0 Z) cn_V rfl (by decide +kernel) ⟨by decide +kernel, by decide +kernel⟩ (by decide +kernel) ?_ ve
  intro p e s m args below meth c Z as σ hsp F hr hlk
  exact o_V_clear_0 h0 F hr hlk

theorem d_R_wipe_0 : decode prog_1_method_3_code 0 = .ok (.iload_n 1, 1) := by decide +kernel
theorem d_R_wipe_1 : decode prog_1_method_3_code 1 = .ok (.iconst 0, 1) := by decide +kernel
theorem d_R_wipe_2 : decode prog_1_method_3_code 2 = .ok (.iconst 1, 1) := by decide +kernel
theorem d_R_wipe_3 : decode prog_1_method_3_code 3 = .ok (.invokestatic 73, 3) := by decide +kernel
theorem d_R_wipe_6 : decode prog_1_method_3_code 6 = .ok (.ifCond .eq 6, 3) := by decide +kernel
theorem d_R_wipe_9 : decode prog_1_method_3_code 9 = .ok (.bipush (-2), 2) := by decide +kernel
theorem d_R_wipe_11 : decode prog_1_method_3_code 11 = .ok (.ireturn, 1) := by decide +kernel
theorem d_R_wipe_12 : decode prog_1_method_3_code 12 = .ok (.aload_n 0, 1) := by decide +kernel
theorem d_R_wipe_13 : decode prog_1_method_3_code 13 = .ok (.getfield 12, 3) := by decide +kernel
theorem d_R_wipe_16 : decode prog_1_method_3_code 16 = .ok (.aload_n 0, 1) := by decide +kernel
theorem d_R_wipe_17 : decode prog_1_method_3_code 17 = .ok (.getfield 12, 3) := by decide +kernel
theorem d_R_wipe_20 : decode prog_1_method_3_code 20 = .ok (.iload_n 1, 1) := by decide +kernel
theorem d_R_wipe_21 : decode prog_1_method_3_code 21 = .ok (.invokevirtual 77, 3) := by decide +kernel
theorem d_R_wipe_24 : decode prog_1_method_3_code 24 = .ok (.invokevirtual 85, 3) := by decide +kernel
theorem d_R_wipe_27 : decode prog_1_method_3_code 27 = .ok (.ireturn, 1) := by decide +kernel
def b_R_wipe_12 (c0 c1 c2 : ra_Sp) (Z : ra_R) : ra_K := w_al 0 <| w_gr 0 0 <| w_al 0 <| w_gr 0 0 <| w_il 1 <| w_cv c1 2 1 <| w_cv c2 2 1 <| w_ir Z
def b_R_wipe_9 (c0 c1 c2 : ra_Sp) (Z : ra_R) : ra_K := w_c (-2) <| w_ir Z
def b_R_wipe_0 (c0 c1 c2 : ra_Sp) (Z : ra_R) : ra_K := w_il 1 <| w_c 0 <| w_c 1 <| w_cs c0 3 <| w_b1 (fun x => x = 0) (b_R_wipe_12 c0 c1 c2 Z) (b_R_wipe_9 c0 c1 c2 Z)
theorem o_R_wipe_12 {X : ra_X} {p : Program} {l : Launch} {e : Env} {s : State} {m : MethodId} {args : Array Value} {below : List Frame} {meth : Method} {c : Code} {Z : ra_R} {c0 c1 c2 : ra_Sp}  (h0 : ra_MOK l X mi_R_isOutside c0) (h1 : ra_MOK l X mi_V_textOf c1) (h2 : ra_MOK l X mi_V_clear c2) (F : ra_Fx X p rm_R_wipe s m args c prog_1_method_3_code 2 cn_R) (hr : meth.sig.returnType = (some .int)) (hlk : meth.locks = false) : ra_At X p l e rm_R_wipe s m args below meth c 2 (MQ below (ra_Qc X Z) args s 0 0 (ra_A X)) (b_R_wipe_12 c0 c1 c2 Z) 12 :=
  r_aload_n F d_R_wipe_12 rfl <| r_getR F cg_R (j := 0) (by decide) rfl fl_R_12 d_R_wipe_13 <| r_aload_n F d_R_wipe_16 rfl <| r_getR F cg_R (j := 0) (by decide) rfl fl_R_12 d_R_wipe_17 <| r_iload_n F d_R_wipe_20 rfl <| r_callV F h1 (co_V_textOf (by decide +kernel) (by decide +kernel)) ⟨rfl, by decide +kernel⟩ ⟨rfl, by decide⟩ ml_R_77 im_V_textOf se_V_textOf d_R_wipe_21 <| r_callV F h2 (co_V_clear (by decide +kernel) (by decide +kernel)) ⟨rfl, by decide +kernel⟩ ⟨rfl, by decide⟩ ml_R_85 im_V_clear se_V_clear d_R_wipe_24 <| r_ireturn F hr hlk d_R_wipe_27
theorem o_R_wipe_9 {X : ra_X} {p : Program} {l : Launch} {e : Env} {s : State} {m : MethodId} {args : Array Value} {below : List Frame} {meth : Method} {c : Code} {Z : ra_R} {c0 c1 c2 : ra_Sp}  (h0 : ra_MOK l X mi_R_isOutside c0) (h1 : ra_MOK l X mi_V_textOf c1) (h2 : ra_MOK l X mi_V_clear c2) (F : ra_Fx X p rm_R_wipe s m args c prog_1_method_3_code 2 cn_R) (hr : meth.sig.returnType = (some .int)) (hlk : meth.locks = false) : ra_At X p l e rm_R_wipe s m args below meth c 2 (MQ below (ra_Qc X Z) args s 0 0 (ra_A X)) (b_R_wipe_9 c0 c1 c2 Z) 9 :=
  r_bipush F d_R_wipe_9 (by decide) <| r_ireturn F hr hlk d_R_wipe_11
theorem o_R_wipe_0 {X : ra_X} {p : Program} {l : Launch} {e : Env} {s : State} {m : MethodId} {args : Array Value} {below : List Frame} {meth : Method} {c : Code} {Z : ra_R} {c0 c1 c2 : ra_Sp}  (h0 : ra_MOK l X mi_R_isOutside c0) (h1 : ra_MOK l X mi_V_textOf c1) (h2 : ra_MOK l X mi_V_clear c2) (F : ra_Fx X p rm_R_wipe s m args c prog_1_method_3_code 2 cn_R) (hr : meth.sig.returnType = (some .int)) (hlk : meth.locks = false) : ra_At X p l e rm_R_wipe s m args below meth c 2 (MQ below (ra_Qc X Z) args s 0 0 (ra_A X)) (b_R_wipe_0 c0 c1 c2 Z) 0 :=
  r_iload_n F d_R_wipe_0 rfl <| r_iconst F d_R_wipe_1 (by decide) <| r_iconst F d_R_wipe_2 (by decide) <| r_callS F h0 (co_R_isOutside (by decide +kernel) (by decide +kernel)) ⟨rfl, by decide +kernel⟩ ml_R_73 st_R_isOutside d_R_wipe_3 <| r_if_eq F d_R_wipe_6 (by decide) (o_R_wipe_12 h0 h1 h2 F hr hlk) (o_R_wipe_9 h0 h1 h2 F hr hlk)
theorem g_R_wipe {l : Launch} {X : ra_X} {c0 c1 c2 : ra_Sp}  (h0 : ra_MOK l X mi_R_isOutside c0) (h1 : ra_MOK l X mi_V_textOf c1) (h2 : ra_MOK l X mi_V_clear c2) (sp : ra_Sp) (ve : ∀ as σ Z, ra_c1 as = true → as.length = 2 → sp as σ Z → b_R_wipe_0 c0 c1 c2 Z (ra_pad 2 as) [] σ) : ra_MOK l X mi_R_wipe sp := by
  refine ra_enter (k := fun Z as σ => b_R_wipe_0 c0 c1 c2 Z) cn_R rfl (by decide +kernel) ⟨by decide +kernel, by decide +kernel⟩ (by decide +kernel) ?_ ve
  intro p e s m args below meth c Z as σ hsp F hr hlk
  exact o_R_wipe_0 h0 h1 h2 F hr hlk

theorem d_R_fault_0 : decode prog_1_method_4_code 0 = .ok (.iload_n 1, 1) := by decide +kernel
theorem d_R_fault_1 : decode prog_1_method_4_code 1 = .ok (.iconst 0, 1) := by decide +kernel
theorem d_R_fault_2 : decode prog_1_method_4_code 2 = .ok (.iconst 1, 1) := by decide +kernel
theorem d_R_fault_3 : decode prog_1_method_4_code 3 = .ok (.invokestatic 73, 3) := by decide +kernel
theorem d_R_fault_6 : decode prog_1_method_4_code 6 = .ok (.ifCond .eq 6, 3) := by decide +kernel
theorem d_R_fault_9 : decode prog_1_method_4_code 9 = .ok (.bipush (-2), 2) := by decide +kernel
theorem d_R_fault_11 : decode prog_1_method_4_code 11 = .ok (.ireturn, 1) := by decide +kernel
theorem d_R_fault_12 : decode prog_1_method_4_code 12 = .ok (.iload_n 1, 1) := by decide +kernel
theorem d_R_fault_13 : decode prog_1_method_4_code 13 = .ok (.ifCond .ne 13, 3) := by decide +kernel
theorem d_R_fault_16 : decode prog_1_method_4_code 16 = .ok (.aload_n 0, 1) := by decide +kernel
theorem d_R_fault_17 : decode prog_1_method_4_code 17 = .ok (.getfield 12, 3) := by decide +kernel
theorem d_R_fault_20 : decode prog_1_method_4_code 20 = .ok (.getfield 89, 3) := by decide +kernel
theorem d_R_fault_23 : decode prog_1_method_4_code 23 = .ok (.goto 10, 3) := by decide +kernel
theorem d_R_fault_26 : decode prog_1_method_4_code 26 = .ok (.aload_n 0, 1) := by decide +kernel
theorem d_R_fault_27 : decode prog_1_method_4_code 27 = .ok (.getfield 12, 3) := by decide +kernel
theorem d_R_fault_30 : decode prog_1_method_4_code 30 = .ok (.getfield 93, 3) := by decide +kernel
theorem d_R_fault_33 : decode prog_1_method_4_code 33 = .ok (.ireturn, 1) := by decide +kernel
def b_R_fault_33 (c0 : ra_Sp) (Z : ra_R) : ra_K := w_ir Z
def b_R_fault_26 (c0 : ra_Sp) (Z : ra_R) : ra_K := w_al 0 <| w_gr 0 0 <| w_gi 1 10 <| (b_R_fault_33 c0 Z)
def b_R_fault_16 (c0 : ra_Sp) (Z : ra_R) : ra_K := w_al 0 <| w_gr 0 0 <| w_gi 1 9 <| (b_R_fault_33 c0 Z)
def b_R_fault_12 (c0 : ra_Sp) (Z : ra_R) : ra_K := w_il 1 <| w_b1 (fun x => x = 0) (b_R_fault_16 c0 Z) (b_R_fault_26 c0 Z)
def b_R_fault_9 (c0 : ra_Sp) (Z : ra_R) : ra_K := w_c (-2) <| w_ir Z
def b_R_fault_0 (c0 : ra_Sp) (Z : ra_R) : ra_K := w_il 1 <| w_c 0 <| w_c 1 <| w_cs c0 3 <| w_b1 (fun x => x = 0) (b_R_fault_12 c0 Z) (b_R_fault_9 c0 Z)
theorem o_R_fault_33 {X : ra_X} {p : Program} {l : Launch} {e : Env} {s : State} {m : MethodId} {args : Array Value} {below : List Frame} {meth : Method} {c : Code} {Z : ra_R} {c0 : ra_Sp}  (h0 : ra_MOK l X mi_R_isOutside c0) (F : ra_Fx X p rm_R_fault s m args c prog_1_method_4_code 2 cn_R) (hr : meth.sig.returnType = (some .int)) (hlk : meth.locks = false) : ra_At X p l e rm_R_fault s m args below meth c 2 (MQ below (ra_Qc X Z) args s 0 0 (ra_A X)) (b_R_fault_33 c0 Z) 33 :=
  r_ireturn F hr hlk d_R_fault_33
theorem o_R_fault_26 {X : ra_X} {p : Program} {l : Launch} {e : Env} {s : State} {m : MethodId} {args : Array Value} {below : List Frame} {meth : Method} {c : Code} {Z : ra_R} {c0 : ra_Sp}  (h0 : ra_MOK l X mi_R_isOutside c0) (F : ra_Fx X p rm_R_fault s m args c prog_1_method_4_code 2 cn_R) (hr : meth.sig.returnType = (some .int)) (hlk : meth.locks = false) : ra_At X p l e rm_R_fault s m args below meth c 2 (MQ below (ra_Qc X Z) args s 0 0 (ra_A X)) (b_R_fault_26 c0 Z) 26 :=
  r_aload_n F d_R_fault_26 rfl <| r_getR F cg_R (j := 0) (by decide) rfl fl_R_12 d_R_fault_27 <| r_getI F cg_V (j := 10) (by decide) rfl fl_R_93 d_R_fault_30 <| (o_R_fault_33 h0 F hr hlk)
theorem o_R_fault_16 {X : ra_X} {p : Program} {l : Launch} {e : Env} {s : State} {m : MethodId} {args : Array Value} {below : List Frame} {meth : Method} {c : Code} {Z : ra_R} {c0 : ra_Sp}  (h0 : ra_MOK l X mi_R_isOutside c0) (F : ra_Fx X p rm_R_fault s m args c prog_1_method_4_code 2 cn_R) (hr : meth.sig.returnType = (some .int)) (hlk : meth.locks = false) : ra_At X p l e rm_R_fault s m args below meth c 2 (MQ below (ra_Qc X Z) args s 0 0 (ra_A X)) (b_R_fault_16 c0 Z) 16 :=
  r_aload_n F d_R_fault_16 rfl <| r_getR F cg_R (j := 0) (by decide) rfl fl_R_12 d_R_fault_17 <| r_getI F cg_V (j := 9) (by decide) rfl fl_R_89 d_R_fault_20 <| r_goto F d_R_fault_23 (by decide) (o_R_fault_33 h0 F hr hlk)
theorem o_R_fault_12 {X : ra_X} {p : Program} {l : Launch} {e : Env} {s : State} {m : MethodId} {args : Array Value} {below : List Frame} {meth : Method} {c : Code} {Z : ra_R} {c0 : ra_Sp}  (h0 : ra_MOK l X mi_R_isOutside c0) (F : ra_Fx X p rm_R_fault s m args c prog_1_method_4_code 2 cn_R) (hr : meth.sig.returnType = (some .int)) (hlk : meth.locks = false) : ra_At X p l e rm_R_fault s m args below meth c 2 (MQ below (ra_Qc X Z) args s 0 0 (ra_A X)) (b_R_fault_12 c0 Z) 12 :=
  r_iload_n F d_R_fault_12 rfl <| r_if_ne F d_R_fault_13 (by decide) (o_R_fault_26 h0 F hr hlk) (o_R_fault_16 h0 F hr hlk)
theorem o_R_fault_9 {X : ra_X} {p : Program} {l : Launch} {e : Env} {s : State} {m : MethodId} {args : Array Value} {below : List Frame} {meth : Method} {c : Code} {Z : ra_R} {c0 : ra_Sp}  (h0 : ra_MOK l X mi_R_isOutside c0) (F : ra_Fx X p rm_R_fault s m args c prog_1_method_4_code 2 cn_R) (hr : meth.sig.returnType = (some .int)) (hlk : meth.locks = false) : ra_At X p l e rm_R_fault s m args below meth c 2 (MQ below (ra_Qc X Z) args s 0 0 (ra_A X)) (b_R_fault_9 c0 Z) 9 :=
  r_bipush F d_R_fault_9 (by decide) <| r_ireturn F hr hlk d_R_fault_11
theorem o_R_fault_0 {X : ra_X} {p : Program} {l : Launch} {e : Env} {s : State} {m : MethodId} {args : Array Value} {below : List Frame} {meth : Method} {c : Code} {Z : ra_R} {c0 : ra_Sp}  (h0 : ra_MOK l X mi_R_isOutside c0) (F : ra_Fx X p rm_R_fault s m args c prog_1_method_4_code 2 cn_R) (hr : meth.sig.returnType = (some .int)) (hlk : meth.locks = false) : ra_At X p l e rm_R_fault s m args below meth c 2 (MQ below (ra_Qc X Z) args s 0 0 (ra_A X)) (b_R_fault_0 c0 Z) 0 :=
  r_iload_n F d_R_fault_0 rfl <| r_iconst F d_R_fault_1 (by decide) <| r_iconst F d_R_fault_2 (by decide) <| r_callS F h0 (co_R_isOutside (by decide +kernel) (by decide +kernel)) ⟨rfl, by decide +kernel⟩ ml_R_73 st_R_isOutside d_R_fault_3 <| r_if_eq F d_R_fault_6 (by decide) (o_R_fault_12 h0 F hr hlk) (o_R_fault_9 h0 F hr hlk)
theorem g_R_fault {l : Launch} {X : ra_X} {c0 : ra_Sp}  (h0 : ra_MOK l X mi_R_isOutside c0) (sp : ra_Sp) (ve : ∀ as σ Z, ra_c1 as = true → as.length = 2 → sp as σ Z → b_R_fault_0 c0 Z (ra_pad 2 as) [] σ) : ra_MOK l X mi_R_fault sp := by
  refine ra_enter (k := fun Z as σ => b_R_fault_0 c0 Z) cn_R rfl (by decide +kernel) ⟨by decide +kernel, by decide +kernel⟩ (by decide +kernel) ?_ ve
  intro p e s m args below meth c Z as σ hsp F hr hlk
  exact o_R_fault_0 h0 F hr hlk

theorem d_R_isNoHouse_0 : decode prog_1_method_38_code 0 = .ok (.iload_n 1, 1) := by decide +kernel
theorem d_R_isNoHouse_1 : decode prog_1_method_38_code 1 = .ok (.iconst 0, 1) := by decide +kernel
theorem d_R_isNoHouse_2 : decode prog_1_method_38_code 2 = .ok (.aload_n 0, 1) := by decide +kernel
theorem d_R_isNoHouse_3 : decode prog_1_method_38_code 3 = .ok (.getfield 12, 3) := by decide +kernel
theorem d_R_isNoHouse_6 : decode prog_1_method_38_code 6 = .ok (.getfield 152, 3) := by decide +kernel
theorem d_R_isNoHouse_9 : decode prog_1_method_38_code 9 = .ok (.iconst 1, 1) := by decide +kernel
theorem d_R_isNoHouse_10 : decode prog_1_method_38_code 10 = .ok (.isub, 1) := by decide +kernel
theorem d_R_isNoHouse_11 : decode prog_1_method_38_code 11 = .ok (.invokestatic 73, 3) := by decide +kernel
theorem d_R_isNoHouse_14 : decode prog_1_method_38_code 14 = .ok (.ireturn, 1) := by decide +kernel
def b_R_isNoHouse_0 (c0 : ra_Sp) (Z : ra_R) : ra_K := w_il 1 <| w_c 0 <| w_al 0 <| w_gr 0 0 <| w_gi 1 8 <| w_c 1 <| w_i2 (fun x y => x - y) <| w_cs c0 3 <| w_zr Z
theorem o_R_isNoHouse_0 {X : ra_X} {p : Program} {l : Launch} {e : Env} {s : State} {m : MethodId} {args : Array Value} {below : List Frame} {meth : Method} {c : Code} {Z : ra_R} {c0 : ra_Sp}  (h0 : ra_MOK l X mi_R_isOutside c0) (F : ra_Fx X p rm_R_isNoHouse s m args c prog_1_method_38_code 2 cn_R) (hr : meth.sig.returnType = (some .boolean)) (hlk : meth.locks = false) : ra_At X p l e rm_R_isNoHouse s m args below meth c 2 (MQ below (ra_Qc X Z) args s 0 0 (ra_A X)) (b_R_isNoHouse_0 c0 Z) 0 :=
  r_iload_n F d_R_isNoHouse_0 rfl <| r_iconst F d_R_isNoHouse_1 (by decide) <| r_aload_n F d_R_isNoHouse_2 rfl <| r_getR F cg_R (j := 0) (by decide) rfl fl_R_12 d_R_isNoHouse_3 <| r_getI F cg_V (j := 8) (by decide) rfl fl_R_152 d_R_isNoHouse_6 <| r_iconst F d_R_isNoHouse_9 (by decide) <| r_isub F d_R_isNoHouse_10 <| r_callS F h0 (co_R_isOutside (by decide +kernel) (by decide +kernel)) ⟨rfl, by decide +kernel⟩ ml_R_73 st_R_isOutside d_R_isNoHouse_11 <| r_zreturn F hr hlk d_R_isNoHouse_14
theorem g_R_isNoHouse {l : Launch} {X : ra_X} {c0 : ra_Sp}  (h0 : ra_MOK l X mi_R_isOutside c0) (sp : ra_Sp) (ve : ∀ as σ Z, ra_c1 as = true → as.length = 2 → sp as σ Z → b_R_isNoHouse_0 c0 Z (ra_pad 2 as) [] σ) : ra_MOK l X mi_R_isNoHouse sp := by
  refine ra_enter (k := fun Z as σ => b_R_isNoHouse_0 c0 Z) cn_R rfl (by decide +kernel) ⟨by decide +kernel, by decide +kernel⟩ (by decide +kernel) ?_ ve
  intro p e s m args below meth c Z as σ hsp F hr hlk
  exact o_R_isNoHouse_0 h0 F hr hlk

theorem d_R_house_0 : decode prog_1_method_5_code 0 = .ok (.aload_n 0, 1) := by decide +kernel
theorem d_R_house_1 : decode prog_1_method_5_code 1 = .ok (.iload_n 1, 1) := by decide +kernel
theorem d_R_house_2 : decode prog_1_method_5_code 2 = .ok (.invokevirtual 96, 3) := by decide +kernel
theorem d_R_house_5 : decode prog_1_method_5_code 5 = .ok (.ifCond .eq 6, 3) := by decide +kernel
theorem d_R_house_8 : decode prog_1_method_5_code 8 = .ok (.bipush (-2), 2) := by decide +kernel
theorem d_R_house_10 : decode prog_1_method_5_code 10 = .ok (.ireturn, 1) := by decide +kernel
theorem d_R_house_11 : decode prog_1_method_5_code 11 = .ok (.iload_n 2, 1) := by decide +kernel
theorem d_R_house_12 : decode prog_1_method_5_code 12 = .ok (.tableswitch 86 0 4 #[36, 46, 56, 66, 76], 36) := by decide +kernel
theorem d_R_house_48 : decode prog_1_method_5_code 48 = .ok (.aload_n 0, 1) := by decide +kernel
theorem d_R_house_49 : decode prog_1_method_5_code 49 = .ok (.getfield 12, 3) := by decide +kernel
theorem d_R_house_52 : decode prog_1_method_5_code 52 = .ok (.getfield 100, 3) := by decide +kernel
theorem d_R_house_55 : decode prog_1_method_5_code 55 = .ok (.iload_n 1, 1) := by decide +kernel
theorem d_R_house_56 : decode prog_1_method_5_code 56 = .ok (.iaload, 1) := by decide +kernel
theorem d_R_house_57 : decode prog_1_method_5_code 57 = .ok (.ireturn, 1) := by decide +kernel
theorem d_R_house_58 : decode prog_1_method_5_code 58 = .ok (.aload_n 0, 1) := by decide +kernel
theorem d_R_house_59 : decode prog_1_method_5_code 59 = .ok (.getfield 12, 3) := by decide +kernel
theorem d_R_house_62 : decode prog_1_method_5_code 62 = .ok (.getfield 103, 3) := by decide +kernel
theorem d_R_house_65 : decode prog_1_method_5_code 65 = .ok (.iload_n 1, 1) := by decide +kernel
theorem d_R_house_66 : decode prog_1_method_5_code 66 = .ok (.iaload, 1) := by decide +kernel
theorem d_R_house_67 : decode prog_1_method_5_code 67 = .ok (.ireturn, 1) := by decide +kernel
theorem d_R_house_68 : decode prog_1_method_5_code 68 = .ok (.aload_n 0, 1) := by decide +kernel
theorem d_R_house_69 : decode prog_1_method_5_code 69 = .ok (.getfield 12, 3) := by decide +kernel
theorem d_R_house_72 : decode prog_1_method_5_code 72 = .ok (.getfield 106, 3) := by decide +kernel
theorem d_R_house_75 : decode prog_1_method_5_code 75 = .ok (.iload_n 1, 1) := by decide +kernel
theorem d_R_house_76 : decode prog_1_method_5_code 76 = .ok (.iaload, 1) := by decide +kernel
theorem d_R_house_77 : decode prog_1_method_5_code 77 = .ok (.ireturn, 1) := by decide +kernel
theorem d_R_house_78 : decode prog_1_method_5_code 78 = .ok (.aload_n 0, 1) := by decide +kernel
theorem d_R_house_79 : decode prog_1_method_5_code 79 = .ok (.getfield 12, 3) := by decide +kernel
theorem d_R_house_82 : decode prog_1_method_5_code 82 = .ok (.getfield 109, 3) := by decide +kernel
theorem d_R_house_85 : decode prog_1_method_5_code 85 = .ok (.iload_n 1, 1) := by decide +kernel
theorem d_R_house_86 : decode prog_1_method_5_code 86 = .ok (.iaload, 1) := by decide +kernel
theorem d_R_house_87 : decode prog_1_method_5_code 87 = .ok (.ireturn, 1) := by decide +kernel
theorem d_R_house_88 : decode prog_1_method_5_code 88 = .ok (.aload_n 0, 1) := by decide +kernel
theorem d_R_house_89 : decode prog_1_method_5_code 89 = .ok (.getfield 12, 3) := by decide +kernel
theorem d_R_house_92 : decode prog_1_method_5_code 92 = .ok (.getfield 112, 3) := by decide +kernel
theorem d_R_house_95 : decode prog_1_method_5_code 95 = .ok (.iload_n 1, 1) := by decide +kernel
theorem d_R_house_96 : decode prog_1_method_5_code 96 = .ok (.iaload, 1) := by decide +kernel
theorem d_R_house_97 : decode prog_1_method_5_code 97 = .ok (.ireturn, 1) := by decide +kernel
theorem d_R_house_98 : decode prog_1_method_5_code 98 = .ok (.bipush (-2), 2) := by decide +kernel
theorem d_R_house_100 : decode prog_1_method_5_code 100 = .ok (.ireturn, 1) := by decide +kernel
def b_R_house_98 (c0 : ra_Sp) (Z : ra_R) : ra_K := w_c (-2) <| w_ir Z
def b_R_house_88 (c0 : ra_Sp) (Z : ra_R) : ra_K := w_al 0 <| w_gr 0 0 <| w_gr 1 6 <| w_il 1 <| w_ald <| w_ir Z
def b_R_house_78 (c0 : ra_Sp) (Z : ra_R) : ra_K := w_al 0 <| w_gr 0 0 <| w_gr 1 5 <| w_il 1 <| w_ald <| w_ir Z
def b_R_house_68 (c0 : ra_Sp) (Z : ra_R) : ra_K := w_al 0 <| w_gr 0 0 <| w_gr 1 4 <| w_il 1 <| w_ald <| w_ir Z
def b_R_house_58 (c0 : ra_Sp) (Z : ra_R) : ra_K := w_al 0 <| w_gr 0 0 <| w_gr 1 3 <| w_il 1 <| w_ald <| w_ir Z
def b_R_house_48 (c0 : ra_Sp) (Z : ra_R) : ra_K := w_al 0 <| w_gr 0 0 <| w_gr 1 2 <| w_il 1 <| w_ald <| w_ir Z
def b_R_house_11 (c0 : ra_Sp) (Z : ra_R) : ra_K := w_il 2 <| w_sw [(0, (b_R_house_48 c0 Z)), (1, (b_R_house_58 c0 Z)), (2, (b_R_house_68 c0 Z)), (3, (b_R_house_78 c0 Z)), (4, (b_R_house_88 c0 Z))] (b_R_house_98 c0 Z)
def b_R_house_8 (c0 : ra_Sp) (Z : ra_R) : ra_K := w_c (-2) <| w_ir Z
def b_R_house_0 (c0 : ra_Sp) (Z : ra_R) : ra_K := w_al 0 <| w_il 1 <| w_cv c0 2 0 <| w_b1 (fun x => x = 0) (b_R_house_11 c0 Z) (b_R_house_8 c0 Z)
theorem o_R_house_98 {X : ra_X} {p : Program} {l : Launch} {e : Env} {s : State} {m : MethodId} {args : Array Value} {below : List Frame} {meth : Method} {c : Code} {Z : ra_R} {c0 : ra_Sp}  (h0 : ra_MOK l X mi_R_isNoHouse c0) (F : ra_Fx X p rm_R_house s m args c prog_1_method_5_code 3 cn_R) (hr : meth.sig.returnType = (some .int)) (hlk : meth.locks = false) : ra_At X p l e rm_R_house s m args below meth c 3 (MQ below (ra_Qc X Z) args s 0 0 (ra_A X)) (b_R_house_98 c0 Z) 98 :=
  r_bipush F d_R_house_98 (by decide) <| r_ireturn F hr hlk d_R_house_100
theorem o_R_house_88 {X : ra_X} {p : Program} {l : Launch} {e : Env} {s : State} {m : MethodId} {args : Array Value} {below : List Frame} {meth : Method} {c : Code} {Z : ra_R} {c0 : ra_Sp}  (h0 : ra_MOK l X mi_R_isNoHouse c0) (F : ra_Fx X p rm_R_house s m args c prog_1_method_5_code 3 cn_R) (hr : meth.sig.returnType = (some .int)) (hlk : meth.locks = false) : ra_At X p l e rm_R_house s m args below meth c 3 (MQ below (ra_Qc X Z) args s 0 0 (ra_A X)) (b_R_house_88 c0 Z) 88 :=
  r_aload_n F d_R_house_88 rfl <| r_getR F cg_R (j := 0) (by decide) rfl fl_R_12 d_R_house_89 <| r_getR F cg_V (j := 6) (by decide) rfl fl_R_112 d_R_house_92 <| r_iload_n F d_R_house_95 rfl <| r_iaload F d_R_house_96 <| r_ireturn F hr hlk d_R_house_97
theorem o_R_house_78 {X : ra_X} {p : Program} {l : Launch} {e : Env} {s : State} {m : MethodId} {args : Array Value} {below : List Frame} {meth : Method} {c : Code} {Z : ra_R} {c0 : ra_Sp}  (h0 : ra_MOK l X mi_R_isNoHouse c0) (F : ra_Fx X p rm_R_house s m args c prog_1_method_5_code 3 cn_R) (hr : meth.sig.returnType = (some .int)) (hlk : meth.locks = false) : ra_At X p l e rm_R_house s m args below meth c 3 (MQ below (ra_Qc X Z) args s 0 0 (ra_A X)) (b_R_house_78 c0 Z) 78 :=
  r_aload_n F d_R_house_78 rfl <| r_getR F cg_R (j := 0) (by decide) rfl fl_R_12 d_R_house_79 <| r_getR F cg_V (j := 5) (by decide) rfl fl_R_109 d_R_house_82 <| r_iload_n F d_R_house_85 rfl <| r_iaload F d_R_house_86 <| r_ireturn F hr hlk d_R_house_87
theorem o_R_house_68 {X : ra_X} {p : Program} {l : Launch} {e : Env} {s : State} {m : MethodId} {args : Array Value} {below : List Frame} {meth : Method} {c : Code} {Z : ra_R} {c0 : ra_Sp}  (h0 : ra_MOK l X mi_R_isNoHouse c0) (F : ra_Fx X p rm_R_house s m args c prog_1_method_5_code 3 cn_R) (hr : meth.sig.returnType = (some .int)) (hlk : meth.locks = false) : ra_At X p l e rm_R_house s m args below meth c 3 (MQ below (ra_Qc X Z) args s 0 0 (ra_A X)) (b_R_house_68 c0 Z) 68 :=
  r_aload_n F d_R_house_68 rfl <| r_getR F cg_R (j := 0) (by decide) rfl fl_R_12 d_R_house_69 <| r_getR F cg_V (j := 4) (by decide) rfl fl_R_106 d_R_house_72 <| r_iload_n F d_R_house_75 rfl <| r_iaload F d_R_house_76 <| r_ireturn F hr hlk d_R_house_77
theorem o_R_house_58 {X : ra_X} {p : Program} {l : Launch} {e : Env} {s : State} {m : MethodId} {args : Array Value} {below : List Frame} {meth : Method} {c : Code} {Z : ra_R} {c0 : ra_Sp}  (h0 : ra_MOK l X mi_R_isNoHouse c0) (F : ra_Fx X p rm_R_house s m args c prog_1_method_5_code 3 cn_R) (hr : meth.sig.returnType = (some .int)) (hlk : meth.locks = false) : ra_At X p l e rm_R_house s m args below meth c 3 (MQ below (ra_Qc X Z) args s 0 0 (ra_A X)) (b_R_house_58 c0 Z) 58 :=
  r_aload_n F d_R_house_58 rfl <| r_getR F cg_R (j := 0) (by decide) rfl fl_R_12 d_R_house_59 <| r_getR F cg_V (j := 3) (by decide) rfl fl_R_103 d_R_house_62 <| r_iload_n F d_R_house_65 rfl <| r_iaload F d_R_house_66 <| r_ireturn F hr hlk d_R_house_67
theorem o_R_house_48 {X : ra_X} {p : Program} {l : Launch} {e : Env} {s : State} {m : MethodId} {args : Array Value} {below : List Frame} {meth : Method} {c : Code} {Z : ra_R} {c0 : ra_Sp}  (h0 : ra_MOK l X mi_R_isNoHouse c0) (F : ra_Fx X p rm_R_house s m args c prog_1_method_5_code 3 cn_R) (hr : meth.sig.returnType = (some .int)) (hlk : meth.locks = false) : ra_At X p l e rm_R_house s m args below meth c 3 (MQ below (ra_Qc X Z) args s 0 0 (ra_A X)) (b_R_house_48 c0 Z) 48 :=
  r_aload_n F d_R_house_48 rfl <| r_getR F cg_R (j := 0) (by decide) rfl fl_R_12 d_R_house_49 <| r_getR F cg_V (j := 2) (by decide) rfl fl_R_100 d_R_house_52 <| r_iload_n F d_R_house_55 rfl <| r_iaload F d_R_house_56 <| r_ireturn F hr hlk d_R_house_57
theorem o_R_house_11 {X : ra_X} {p : Program} {l : Launch} {e : Env} {s : State} {m : MethodId} {args : Array Value} {below : List Frame} {meth : Method} {c : Code} {Z : ra_R} {c0 : ra_Sp}  (h0 : ra_MOK l X mi_R_isNoHouse c0) (F : ra_Fx X p rm_R_house s m args c prog_1_method_5_code 3 cn_R) (hr : meth.sig.returnType = (some .int)) (hlk : meth.locks = false) : ra_At X p l e rm_R_house s m args below meth c 3 (MQ below (ra_Qc X Z) args s 0 0 (ra_A X)) (b_R_house_11 c0 Z) 11 :=
  r_iload_n F d_R_house_11 rfl <| r_tsw F d_R_house_12 (ts := [48, 58, 68, 78, 88]) ⟨(o_R_house_48 h0 F hr hlk), (o_R_house_58 h0 F hr hlk), (o_R_house_68 h0 F hr hlk), (o_R_house_78 h0 F hr hlk), (o_R_house_88 h0 F hr hlk), trivial⟩ rfl (by decide +kernel) (by decide +kernel) (by decide +kernel) (o_R_house_98 h0 F hr hlk)
theorem o_R_house_8 {X : ra_X} {p : Program} {l : Launch} {e : Env} {s : State} {m : MethodId} {args : Array Value} {below : List Frame} {meth : Method} {c : Code} {Z : ra_R} {c0 : ra_Sp}  (h0 : ra_MOK l X mi_R_isNoHouse c0) (F : ra_Fx X p rm_R_house s m args c prog_1_method_5_code 3 cn_R) (hr : meth.sig.returnType = (some .int)) (hlk : meth.locks = false) : ra_At X p l e rm_R_house s m args below meth c 3 (MQ below (ra_Qc X Z) args s 0 0 (ra_A X)) (b_R_house_8 c0 Z) 8 :=
  r_bipush F d_R_house_8 (by decide) <| r_ireturn F hr hlk d_R_house_10
theorem o_R_house_0 {X : ra_X} {p : Program} {l : Launch} {e : Env} {s : State} {m : MethodId} {args : Array Value} {below : List Frame} {meth : Method} {c : Code} {Z : ra_R} {c0 : ra_Sp}  (h0 : ra_MOK l X mi_R_isNoHouse c0) (F : ra_Fx X p rm_R_house s m args c prog_1_method_5_code 3 cn_R) (hr : meth.sig.returnType = (some .int)) (hlk : meth.locks = false) : ra_At X p l e rm_R_house s m args below meth c 3 (MQ below (ra_Qc X Z) args s 0 0 (ra_A X)) (b_R_house_0 c0 Z) 0 :=
  r_aload_n F d_R_house_0 rfl <| r_iload_n F d_R_house_1 rfl <| r_callV F h0 (co_R_isNoHouse (by decide +kernel) (by decide +kernel)) ⟨rfl, by decide +kernel⟩ ⟨rfl, by decide⟩ ml_R_96 im_R_isNoHouse se_R_isNoHouse d_R_house_2 <| r_if_eq F d_R_house_5 (by decide) (o_R_house_11 h0 F hr hlk) (o_R_house_8 h0 F hr hlk)
theorem g_R_house {l : Launch} {X : ra_X} {c0 : ra_Sp}  (h0 : ra_MOK l X mi_R_isNoHouse c0) (sp : ra_Sp) (ve : ∀ as σ Z, ra_c1 as = true → as.length = 3 → sp as σ Z → b_R_house_0 c0 Z (ra_pad 3 as) [] σ) : ra_MOK l X mi_R_house sp := by
  refine ra_enter (k := fun Z as σ => b_R_house_0 c0 Z) cn_R rfl (by decide +kernel) ⟨by decide +kernel, by decide +kernel⟩ (by decide +kernel) ?_ ve
  intro p e s m args below meth c Z as σ hsp F hr hlk
  exact o_R_house_0 h0 F hr hlk

theorem d_Wt_take_0 : decode prog_11_method_2_code 0 = .ok (.iload_n 1, 1) := by decide +kernel
theorem d_Wt_take_1 : decode prog_11_method_2_code 1 = .ok (.iconst 0, 1) := by decide +kernel
theorem d_Wt_take_2 : decode prog_11_method_2_code 2 = .ok (.bipush 9, 2) := by decide +kernel
theorem d_Wt_take_4 : decode prog_11_method_2_code 4 = .ok (.invokestatic 19, 3) := by decide +kernel
theorem d_Wt_take_7 : decode prog_11_method_2_code 7 = .ok (.ifCond .eq 6, 3) := by decide +kernel
theorem d_Wt_take_10 : decode prog_11_method_2_code 10 = .ok (.bipush (-2), 2) := by decide +kernel
theorem d_Wt_take_12 : decode prog_11_method_2_code 12 = .ok (.ireturn, 1) := by decide +kernel
theorem d_Wt_take_13 : decode prog_11_method_2_code 13 = .ok (.aload_n 0, 1) := by decide +kernel
theorem d_Wt_take_14 : decode prog_11_method_2_code 14 = .ok (.getfield 23, 3) := by decide +kernel
theorem d_Wt_take_17 : decode prog_11_method_2_code 17 = .ok (.bipush 12, 2) := by decide +kernel
theorem d_Wt_take_19 : decode prog_11_method_2_code 19 = .ok (.if_icmp .lt 6, 3) := by decide +kernel
theorem d_Wt_take_22 : decode prog_11_method_2_code 22 = .ok (.bipush (-4), 2) := by decide +kernel
theorem d_Wt_take_24 : decode prog_11_method_2_code 24 = .ok (.ireturn, 1) := by decide +kernel
theorem d_Wt_take_25 : decode prog_11_method_2_code 25 = .ok (.aload_n 0, 1) := by decide +kernel
theorem d_Wt_take_26 : decode prog_11_method_2_code 26 = .ok (.getfield 9, 3) := by decide +kernel
theorem d_Wt_take_29 : decode prog_11_method_2_code 29 = .ok (.aload_n 0, 1) := by decide +kernel
theorem d_Wt_take_30 : decode prog_11_method_2_code 30 = .ok (.getfield 23, 3) := by decide +kernel
theorem d_Wt_take_33 : decode prog_11_method_2_code 33 = .ok (.iload_n 1, 1) := by decide +kernel
theorem d_Wt_take_34 : decode prog_11_method_2_code 34 = .ok (.iastore, 1) := by decide +kernel
theorem d_Wt_take_35 : decode prog_11_method_2_code 35 = .ok (.aload_n 0, 1) := by decide +kernel
theorem d_Wt_take_36 : decode prog_11_method_2_code 36 = .ok (.dup, 1) := by decide +kernel
theorem d_Wt_take_37 : decode prog_11_method_2_code 37 = .ok (.getfield 23, 3) := by decide +kernel
theorem d_Wt_take_40 : decode prog_11_method_2_code 40 = .ok (.iconst 1, 1) := by decide +kernel
theorem d_Wt_take_41 : decode prog_11_method_2_code 41 = .ok (.iadd, 1) := by decide +kernel
theorem d_Wt_take_42 : decode prog_11_method_2_code 42 = .ok (.putfield 23, 3) := by decide +kernel
theorem d_Wt_take_45 : decode prog_11_method_2_code 45 = .ok (.aload_n 0, 1) := by decide +kernel
theorem d_Wt_take_46 : decode prog_11_method_2_code 46 = .ok (.dup, 1) := by decide +kernel
theorem d_Wt_take_47 : decode prog_11_method_2_code 47 = .ok (.getfield 26, 3) := by decide +kernel
theorem d_Wt_take_50 : decode prog_11_method_2_code 50 = .ok (.iconst 1, 1) := by decide +kernel
theorem d_Wt_take_51 : decode prog_11_method_2_code 51 = .ok (.iadd, 1) := by decide +kernel
theorem d_Wt_take_52 : decode prog_11_method_2_code 52 = .ok (.putfield 26, 3) := by decide +kernel
theorem d_Wt_take_55 : decode prog_11_method_2_code 55 = .ok (.aload_n 0, 1) := by decide +kernel
theorem d_Wt_take_56 : decode prog_11_method_2_code 56 = .ok (.getfield 23, 3) := by decide +kernel
theorem d_Wt_take_59 : decode prog_11_method_2_code 59 = .ok (.ireturn, 1) := by decide +kernel
def b_Wt_take_25 (c0 : ra_Sp) (Z : ra_R) : ra_K := w_al 0 <| w_gr 3 0 <| w_al 0 <| w_gi 3 1 <| w_il 1 <| w_ast <| w_al 0 <| w_dup <| w_gi 3 1 <| w_c 1 <| w_i2 (fun x y => x + y) <| w_pi 3 1 <| w_al 0 <| w_dup <| w_gi 3 4 <| w_c 1 <| w_i2 (fun x y => x + y) <| w_pi 3 4 <| w_al 0 <| w_gi 3 1 <| w_ir Z
def b_Wt_take_22 (c0 : ra_Sp) (Z : ra_R) : ra_K := w_c (-4) <| w_ir Z
def b_Wt_take_13 (c0 : ra_Sp) (Z : ra_R) : ra_K := w_al 0 <| w_gi 3 1 <| w_c 12 <| w_b2 (fun x y => x < y) (b_Wt_take_25 c0 Z) (b_Wt_take_22 c0 Z)
def b_Wt_take_10 (c0 : ra_Sp) (Z : ra_R) : ra_K := w_c (-2) <| w_ir Z
def b_Wt_take_0 (c0 : ra_Sp) (Z : ra_R) : ra_K := w_il 1 <| w_c 0 <| w_c 9 <| w_cs c0 3 <| w_b1 (fun x => x = 0) (b_Wt_take_13 c0 Z) (b_Wt_take_10 c0 Z)
theorem o_Wt_take_25 {X : ra_X} {p : Program} {l : Launch} {e : Env} {s : State} {m : MethodId} {args : Array Value} {below : List Frame} {meth : Method} {c : Code} {Z : ra_R} {c0 : ra_Sp}  (h0 : ra_MOK l X mi_R_isOutside c0) (F : ra_Fx X p rm_Wt_take s m args c prog_11_method_2_code 2 cn_Wt) (hr : meth.sig.returnType = (some .int)) (hlk : meth.locks = false) : ra_At X p l e rm_Wt_take s m args below meth c 2 (MQ below (ra_Qc X Z) args s 0 0 (ra_A X)) (b_Wt_take_25 c0 Z) 25 :=
  r_aload_n F d_Wt_take_25 rfl <| r_getR F cg_Wt (j := 0) (by decide) rfl fl_Wt_9 d_Wt_take_26 <| r_aload_n F d_Wt_take_29 rfl <| r_getI F cg_Wt (j := 1) (by decide) rfl fl_Wt_23 d_Wt_take_30 <| r_iload_n F d_Wt_take_33 rfl <| r_iastore F d_Wt_take_34 <| r_aload_n F d_Wt_take_35 rfl <| r_dup F d_Wt_take_36 <| r_getI F cg_Wt (j := 1) (by decide) rfl fl_Wt_23 d_Wt_take_37 <| r_iconst F d_Wt_take_40 (by decide) <| r_iadd F d_Wt_take_41 <| r_putI F cg_Wt (j := 1) (by decide) rfl rfl rfl fl_Wt_23 d_Wt_take_42 <| r_aload_n F d_Wt_take_45 rfl <| r_dup F d_Wt_take_46 <| r_getI F cg_Wt (j := 4) (by decide) rfl fl_Wt_26 d_Wt_take_47 <| r_iconst F d_Wt_take_50 (by decide) <| r_iadd F d_Wt_take_51 <| r_putI F cg_Wt (j := 4) (by decide) rfl rfl rfl fl_Wt_26 d_Wt_take_52 <| r_aload_n F d_Wt_take_55 rfl <| r_getI F cg_Wt (j := 1) (by decide) rfl fl_Wt_23 d_Wt_take_56 <| r_ireturn F hr hlk d_Wt_take_59
theorem o_Wt_take_22 {X : ra_X} {p : Program} {l : Launch} {e : Env} {s : State} {m : MethodId} {args : Array Value} {below : List Frame} {meth : Method} {c : Code} {Z : ra_R} {c0 : ra_Sp}  (h0 : ra_MOK l X mi_R_isOutside c0) (F : ra_Fx X p rm_Wt_take s m args c prog_11_method_2_code 2 cn_Wt) (hr : meth.sig.returnType = (some .int)) (hlk : meth.locks = false) : ra_At X p l e rm_Wt_take s m args below meth c 2 (MQ below (ra_Qc X Z) args s 0 0 (ra_A X)) (b_Wt_take_22 c0 Z) 22 :=
  r_bipush F d_Wt_take_22 (by decide) <| r_ireturn F hr hlk d_Wt_take_24
theorem o_Wt_take_13 {X : ra_X} {p : Program} {l : Launch} {e : Env} {s : State} {m : MethodId} {args : Array Value} {below : List Frame} {meth : Method} {c : Code} {Z : ra_R} {c0 : ra_Sp}  (h0 : ra_MOK l X mi_R_isOutside c0) (F : ra_Fx X p rm_Wt_take s m args c prog_11_method_2_code 2 cn_Wt) (hr : meth.sig.returnType = (some .int)) (hlk : meth.locks = false) : ra_At X p l e rm_Wt_take s m args below meth c 2 (MQ below (ra_Qc X Z) args s 0 0 (ra_A X)) (b_Wt_take_13 c0 Z) 13 :=
  r_aload_n F d_Wt_take_13 rfl <| r_getI F cg_Wt (j := 1) (by decide) rfl fl_Wt_23 d_Wt_take_14 <| r_bipush F d_Wt_take_17 (by decide) <| r_icmp_lt F d_Wt_take_19 (by decide) (o_Wt_take_25 h0 F hr hlk) (o_Wt_take_22 h0 F hr hlk)
theorem o_Wt_take_10 {X : ra_X} {p : Program} {l : Launch} {e : Env} {s : State} {m : MethodId} {args : Array Value} {below : List Frame} {meth : Method} {c : Code} {Z : ra_R} {c0 : ra_Sp}  (h0 : ra_MOK l X mi_R_isOutside c0) (F : ra_Fx X p rm_Wt_take s m args c prog_11_method_2_code 2 cn_Wt) (hr : meth.sig.returnType = (some .int)) (hlk : meth.locks = false) : ra_At X p l e rm_Wt_take s m args below meth c 2 (MQ below (ra_Qc X Z) args s 0 0 (ra_A X)) (b_Wt_take_10 c0 Z) 10 :=
  r_bipush F d_Wt_take_10 (by decide) <| r_ireturn F hr hlk d_Wt_take_12
theorem o_Wt_take_0 {X : ra_X} {p : Program} {l : Launch} {e : Env} {s : State} {m : MethodId} {args : Array Value} {below : List Frame} {meth : Method} {c : Code} {Z : ra_R} {c0 : ra_Sp}  (h0 : ra_MOK l X mi_R_isOutside c0) (F : ra_Fx X p rm_Wt_take s m args c prog_11_method_2_code 2 cn_Wt) (hr : meth.sig.returnType = (some .int)) (hlk : meth.locks = false) : ra_At X p l e rm_Wt_take s m args below meth c 2 (MQ below (ra_Qc X Z) args s 0 0 (ra_A X)) (b_Wt_take_0 c0 Z) 0 :=
  r_iload_n F d_Wt_take_0 rfl <| r_iconst F d_Wt_take_1 (by decide) <| r_bipush F d_Wt_take_2 (by decide) <| r_callSN F h0 (co_R_isOutside (by decide +kernel) (by decide +kernel)) ⟨rfl, by decide +kernel⟩ (host := "RoofAcross") (by decide +kernel) st_R_isOutside d_Wt_take_4 <| r_if_eq F d_Wt_take_7 (by decide) (o_Wt_take_13 h0 F hr hlk) (o_Wt_take_10 h0 F hr hlk)
theorem g_Wt_take {l : Launch} {X : ra_X} {c0 : ra_Sp}  (h0 : ra_MOK l X mi_R_isOutside c0) (sp : ra_Sp) (ve : ∀ as σ Z, ra_c1 as = true → as.length = 2 → sp as σ Z → b_Wt_take_0 c0 Z (ra_pad 2 as) [] σ) : ra_MOK l X mi_Wt_take sp := by
  refine ra_enter (k := fun Z as σ => b_Wt_take_0 c0 Z) cn_Wt rfl (by decide +kernel) ⟨by decide +kernel, by decide +kernel⟩ (by decide +kernel) ?_ ve
  intro p e s m args below meth c Z as σ hsp F hr hlk
  exact o_Wt_take_0 h0 F hr hlk

theorem d_R_rain_0 : decode prog_1_method_6_code 0 = .ok (.aload_n 0, 1) := by decide +kernel
theorem d_R_rain_1 : decode prog_1_method_6_code 1 = .ok (.getfield 19, 3) := by decide +kernel
theorem d_R_rain_4 : decode prog_1_method_6_code 4 = .ok (.iload_n 1, 1) := by decide +kernel
theorem d_R_rain_5 : decode prog_1_method_6_code 5 = .ok (.invokevirtual 115, 3) := by decide +kernel
theorem d_R_rain_8 : decode prog_1_method_6_code 8 = .ok (.ireturn, 1) := by decide +kernel
def b_R_rain_0 (c0 : ra_Sp) (Z : ra_R) : ra_K := w_al 0 <| w_gr 0 1 <| w_il 1 <| w_cv c0 2 3 <| w_ir Z
theorem o_R_rain_0 {X : ra_X} {p : Program} {l : Launch} {e : Env} {s : State} {m : MethodId} {args : Array Value} {below : List Frame} {meth : Method} {c : Code} {Z : ra_R} {c0 : ra_Sp}  (h0 : ra_MOK l X mi_Wt_take c0) (F : ra_Fx X p rm_R_rain s m args c prog_1_method_6_code 2 cn_R) (hr : meth.sig.returnType = (some .int)) (hlk : meth.locks = false) : ra_At X p l e rm_R_rain s m args below meth c 2 (MQ below (ra_Qc X Z) args s 0 0 (ra_A X)) (b_R_rain_0 c0 Z) 0 :=
  r_aload_n F d_R_rain_0 rfl <| r_getR F cg_R (j := 1) (by decide) rfl fl_R_19 d_R_rain_1 <| r_iload_n F d_R_rain_4 rfl <| r_callV F h0 (co_Wt_take (by decide +kernel) (by decide +kernel)) ⟨rfl, by decide +kernel⟩ ⟨rfl, by decide⟩ ml_R_115 im_Wt_take se_Wt_take d_R_rain_5 <| r_ireturn F hr hlk d_R_rain_8
theorem g_R_rain {l : Launch} {X : ra_X} {c0 : ra_Sp}  (h0 : ra_MOK l X mi_Wt_take c0) (sp : ra_Sp) (ve : ∀ as σ Z, ra_c1 as = true → as.length = 2 → sp as σ Z → b_R_rain_0 c0 Z (ra_pad 2 as) [] σ) : ra_MOK l X mi_R_rain sp := by
  refine ra_enter (k := fun Z as σ => b_R_rain_0 c0 Z) cn_R rfl (by decide +kernel) ⟨by decide +kernel, by decide +kernel⟩ (by decide +kernel) ?_ ve
  intro p e s m args below meth c Z as σ hsp F hr hlk
  exact o_R_rain_0 h0 F hr hlk

theorem d_R_isNoSheet_0 : decode prog_1_method_40_code 0 = .ok (.iload_n 0, 1) := by decide +kernel
theorem d_R_isNoSheet_1 : decode prog_1_method_40_code 1 = .ok (.iconst 0, 1) := by decide +kernel
theorem d_R_isNoSheet_2 : decode prog_1_method_40_code 2 = .ok (.iconst 3, 1) := by decide +kernel
theorem d_R_isNoSheet_3 : decode prog_1_method_40_code 3 = .ok (.invokestatic 73, 3) := by decide +kernel
theorem d_R_isNoSheet_6 : decode prog_1_method_40_code 6 = .ok (.ireturn, 1) := by decide +kernel
def b_R_isNoSheet_0 (c0 : ra_Sp) (Z : ra_R) : ra_K := w_il 0 <| w_c 0 <| w_c 3 <| w_cs c0 3 <| w_zr Z
theorem o_R_isNoSheet_0 {X : ra_X} {p : Program} {l : Launch} {e : Env} {s : State} {m : MethodId} {args : Array Value} {below : List Frame} {meth : Method} {c : Code} {Z : ra_R} {c0 : ra_Sp}  (h0 : ra_MOK l X mi_R_isOutside c0) (F : ra_Fx X p rm_R_isNoSheet s m args c prog_1_method_40_code 1 cn_R) (hr : meth.sig.returnType = (some .boolean)) (hlk : meth.locks = false) : ra_At X p l e rm_R_isNoSheet s m args below meth c 1 (MQ below (ra_Qc X Z) args s 0 0 (ra_A X)) (b_R_isNoSheet_0 c0 Z) 0 :=
  r_iload_n F d_R_isNoSheet_0 rfl <| r_iconst F d_R_isNoSheet_1 (by decide) <| r_iconst F d_R_isNoSheet_2 (by decide) <| r_callS F h0 (co_R_isOutside (by decide +kernel) (by decide +kernel)) ⟨rfl, by decide +kernel⟩ ml_R_73 st_R_isOutside d_R_isNoSheet_3 <| r_zreturn F hr hlk d_R_isNoSheet_6
theorem g_R_isNoSheet {l : Launch} {X : ra_X} {c0 : ra_Sp}  (h0 : ra_MOK l X mi_R_isOutside c0) (sp : ra_Sp) (ve : ∀ as σ Z, ra_c1 as = true → as.length = 1 → sp as σ Z → b_R_isNoSheet_0 c0 Z (ra_pad 1 as) [] σ) : ra_MOK l X mi_R_isNoSheet sp := by
  refine ra_enter (k := fun Z as σ => b_R_isNoSheet_0 c0 Z) cn_R rfl (by decide +kernel) ⟨by decide +kernel, by decide +kernel⟩ (by decide +kernel) ?_ ve
  intro p e s m args below meth c Z as σ hsp F hr hlk
  exact o_R_isNoSheet_0 h0 F hr hlk

theorem d_R_find_0 : decode prog_1_method_37_code 0 = .ok (.aload_n 0, 1) := by decide +kernel
theorem d_R_find_1 : decode prog_1_method_37_code 1 = .ok (.iload_n 1, 1) := by decide +kernel
theorem d_R_find_2 : decode prog_1_method_37_code 2 = .ok (.putfield 252, 3) := by decide +kernel
theorem d_R_find_5 : decode prog_1_method_37_code 5 = .ok (.bipush (-10), 2) := by decide +kernel
theorem d_R_find_7 : decode prog_1_method_37_code 7 = .ok (.iload_n 1, 1) := by decide +kernel
theorem d_R_find_8 : decode prog_1_method_37_code 8 = .ok (.isub, 1) := by decide +kernel
theorem d_R_find_9 : decode prog_1_method_37_code 9 = .ok (.ireturn, 1) := by decide +kernel
def b_R_find_0 (Z : ra_R) : ra_K := w_al 0 <| w_il 1 <| w_pi 0 9 <| w_c (-10) <| w_il 1 <| w_i2 (fun x y => x - y) <| w_ir Z
theorem o_R_find_0 {X : ra_X} {p : Program} {l : Launch} {e : Env} {s : State} {m : MethodId} {args : Array Value} {below : List Frame} {meth : Method} {c : Code} {Z : ra_R}  (F : ra_Fx X p rm_R_find s m args c prog_1_method_37_code 2 cn_R) (hr : meth.sig.returnType = (some .int)) (hlk : meth.locks = false) : ra_At X p l e rm_R_find s m args below meth c 2 (MQ below (ra_Qc X Z) args s 0 0 (ra_A X)) (b_R_find_0 Z) 0 :=
  r_aload_n F d_R_find_0 rfl <| r_iload_n F d_R_find_1 rfl <| r_putI F cg_R (j := 9) (by decide) rfl rfl rfl fl_R_252 d_R_find_2 <| r_bipush F d_R_find_5 (by decide) <| r_iload_n F d_R_find_7 rfl <| r_isub F d_R_find_8 <| r_ireturn F hr hlk d_R_find_9
theorem g_R_find {l : Launch} {X : ra_X}  (sp : ra_Sp) (ve : ∀ as σ Z, ra_c1 as = true → as.length = 2 → sp as σ Z → b_R_find_0 Z (ra_pad 2 as) [] σ) : ra_MOK l X mi_R_find sp := by
  refine ra_enter (k := fun Z as σ => b_R_find_0 Z) cn_R rfl (by decide +kernel) ⟨by decide +kernel, by decide +kernel⟩ (by decide +kernel) ?_ ve
  intro p e s m args below meth c Z as σ hsp F hr hlk
  exact o_R_find_0 F hr hlk

theorem d_R_read_0 : decode prog_1_method_7_code 0 = .ok (.iload_n 1, 1) := by decide +kernel
theorem d_R_read_1 : decode prog_1_method_7_code 1 = .ok (.invokestatic 119, 3) := by decide +kernel
theorem d_R_read_4 : decode prog_1_method_7_code 4 = .ok (.ifCond .eq 6, 3) := by decide +kernel
theorem d_R_read_7 : decode prog_1_method_7_code 7 = .ok (.bipush (-2), 2) := by decide +kernel
theorem d_R_read_9 : decode prog_1_method_7_code 9 = .ok (.ireturn, 1) := by decide +kernel
theorem d_R_read_10 : decode prog_1_method_7_code 10 = .ok (.aload_n 0, 1) := by decide +kernel
theorem d_R_read_11 : decode prog_1_method_7_code 11 = .ok (.getfield 68, 3) := by decide +kernel
theorem d_R_read_14 : decode prog_1_method_7_code 14 = .ok (.iload_n 1, 1) := by decide +kernel
theorem d_R_read_15 : decode prog_1_method_7_code 15 = .ok (.aaload, 1) := by decide +kernel
theorem d_R_read_16 : decode prog_1_method_7_code 16 = .ok (.astore_n 2, 1) := by decide +kernel
theorem d_R_read_17 : decode prog_1_method_7_code 17 = .ok (.aload_n 2, 1) := by decide +kernel
theorem d_R_read_18 : decode prog_1_method_7_code 18 = .ok (.getfield 122, 3) := by decide +kernel
theorem d_R_read_21 : decode prog_1_method_7_code 21 = .ok (.ifCond .eq 9, 3) := by decide +kernel
theorem d_R_read_24 : decode prog_1_method_7_code 24 = .ok (.aload_n 0, 1) := by decide +kernel
theorem d_R_read_25 : decode prog_1_method_7_code 25 = .ok (.iconst 1, 1) := by decide +kernel
theorem d_R_read_26 : decode prog_1_method_7_code 26 = .ok (.invokevirtual 126, 3) := by decide +kernel
theorem d_R_read_29 : decode prog_1_method_7_code 29 = .ok (.ireturn, 1) := by decide +kernel
theorem d_R_read_30 : decode prog_1_method_7_code 30 = .ok (.iconst 0, 1) := by decide +kernel
theorem d_R_read_31 : decode prog_1_method_7_code 31 = .ok (.istore_n 3, 1) := by decide +kernel
theorem d_R_read_32 : decode prog_1_method_7_code 32 = .ok (.iload_n 3, 1) := by decide +kernel
theorem d_R_read_33 : decode prog_1_method_7_code 33 = .ok (.aload_n 2, 1) := by decide +kernel
theorem d_R_read_34 : decode prog_1_method_7_code 34 = .ok (.getfield 129, 3) := by decide +kernel
theorem d_R_read_37 : decode prog_1_method_7_code 37 = .ok (.if_icmp .ge 25, 3) := by decide +kernel
theorem d_R_read_40 : decode prog_1_method_7_code 40 = .ok (.aload_n 0, 1) := by decide +kernel
theorem d_R_read_41 : decode prog_1_method_7_code 41 = .ok (.getfield 19, 3) := by decide +kernel
theorem d_R_read_44 : decode prog_1_method_7_code 44 = .ok (.aload_n 2, 1) := by decide +kernel
theorem d_R_read_45 : decode prog_1_method_7_code 45 = .ok (.getfield 132, 3) := by decide +kernel
theorem d_R_read_48 : decode prog_1_method_7_code 48 = .ok (.iload_n 3, 1) := by decide +kernel
theorem d_R_read_49 : decode prog_1_method_7_code 49 = .ok (.iaload, 1) := by decide +kernel
theorem d_R_read_50 : decode prog_1_method_7_code 50 = .ok (.invokevirtual 115, 3) := by decide +kernel
theorem d_R_read_53 : decode prog_1_method_7_code 53 = .ok (.ifCond .lt 9, 3) := by decide +kernel
theorem d_R_read_56 : decode prog_1_method_7_code 56 = .ok (.iinc 3 1, 3) := by decide +kernel
theorem d_R_read_59 : decode prog_1_method_7_code 59 = .ok (.goto (-27), 3) := by decide +kernel
theorem d_R_read_62 : decode prog_1_method_7_code 62 = .ok (.iload_n 3, 1) := by decide +kernel
theorem d_R_read_63 : decode prog_1_method_7_code 63 = .ok (.ireturn, 1) := by decide +kernel
def b_R_read_62 (c0 c1 c2 : ra_Sp) (I : Nat → ra_K) (Z : ra_R) : ra_K := w_il 3 <| w_ir Z
def b_R_read_56 (c0 c1 c2 : ra_Sp) (I : Nat → ra_K) (Z : ra_R) : ra_K := w_inc 3 1 <| (I 32)
def b_R_read_40 (c0 c1 c2 : ra_Sp) (I : Nat → ra_K) (Z : ra_R) : ra_K := w_al 0 <| w_gr 0 1 <| w_al 2 <| w_gr 10 0 <| w_il 3 <| w_ald <| w_cv c2 2 3 <| w_b1 (fun x => x < 0) (b_R_read_62 c0 c1 c2 I Z) (b_R_read_56 c0 c1 c2 I Z)
def b_R_read_32 (c0 c1 c2 : ra_Sp) (I : Nat → ra_K) (Z : ra_R) : ra_K := w_il 3 <| w_al 2 <| w_gi 10 3 <| w_b2 (fun x y => y ≤ x) (b_R_read_62 c0 c1 c2 I Z) (b_R_read_40 c0 c1 c2 I Z)
def b_R_read_30 (c0 c1 c2 : ra_Sp) (I : Nat → ra_K) (Z : ra_R) : ra_K := w_c 0 <| w_is 3 <| (I 32)
def b_R_read_24 (c0 c1 c2 : ra_Sp) (I : Nat → ra_K) (Z : ra_R) : ra_K := w_al 0 <| w_c 1 <| w_cv c1 2 0 <| w_ir Z
def b_R_read_10 (c0 c1 c2 : ra_Sp) (I : Nat → ra_K) (Z : ra_R) : ra_K := w_al 0 <| w_gr 0 8 <| w_il 1 <| w_rld 3 <| w_as 2 <| w_al 2 <| w_gi 10 1 <| w_b1 (fun x => x = 0) (b_R_read_30 c0 c1 c2 I Z) (b_R_read_24 c0 c1 c2 I Z)
def b_R_read_7 (c0 c1 c2 : ra_Sp) (I : Nat → ra_K) (Z : ra_R) : ra_K := w_c (-2) <| w_ir Z
def b_R_read_0 (c0 c1 c2 : ra_Sp) (I : Nat → ra_K) (Z : ra_R) : ra_K := w_il 1 <| w_cs c0 1 <| w_b1 (fun x => x = 0) (b_R_read_10 c0 c1 c2 I Z) (b_R_read_7 c0 c1 c2 I Z)
theorem o_R_read_62 {X : ra_X} {p : Program} {l : Launch} {e : Env} {s : State} {m : MethodId} {args : Array Value} {below : List Frame} {meth : Method} {c : Code} {Z : ra_R} {c0 c1 c2 : ra_Sp}  (h0 : ra_MOK l X mi_R_isNoSheet c0) (h1 : ra_MOK l X mi_R_find c1) (h2 : ra_MOK l X mi_Wt_take c2) (F : ra_Fx X p rm_R_read s m args c prog_1_method_7_code 4 cn_R) (hr : meth.sig.returnType = (some .int)) (hlk : meth.locks = false) {I : Nat → ra_K} (hI : ∀ t ∈ [32], ra_At X p l e rm_R_read s m args below meth c 4 (MQ below (ra_Qc X Z) args s 0 0 (ra_A X)) (I t) t) : ra_At X p l e rm_R_read s m args below meth c 4 (MQ below (ra_Qc X Z) args s 0 0 (ra_A X)) (b_R_read_62 c0 c1 c2 I Z) 62 :=
  r_iload_n F d_R_read_62 rfl <| r_ireturn F hr hlk d_R_read_63
theorem o_R_read_56 {X : ra_X} {p : Program} {l : Launch} {e : Env} {s : State} {m : MethodId} {args : Array Value} {below : List Frame} {meth : Method} {c : Code} {Z : ra_R} {c0 c1 c2 : ra_Sp}  (h0 : ra_MOK l X mi_R_isNoSheet c0) (h1 : ra_MOK l X mi_R_find c1) (h2 : ra_MOK l X mi_Wt_take c2) (F : ra_Fx X p rm_R_read s m args c prog_1_method_7_code 4 cn_R) (hr : meth.sig.returnType = (some .int)) (hlk : meth.locks = false) {I : Nat → ra_K} (hI : ∀ t ∈ [32], ra_At X p l e rm_R_read s m args below meth c 4 (MQ below (ra_Qc X Z) args s 0 0 (ra_A X)) (I t) t) : ra_At X p l e rm_R_read s m args below meth c 4 (MQ below (ra_Qc X Z) args s 0 0 (ra_A X)) (b_R_read_56 c0 c1 c2 I Z) 56 :=
  r_iinc F d_R_read_56 (by decide) (by decide) <| r_goto F d_R_read_59 (by decide) (hI 32 (by decide))
theorem o_R_read_40 {X : ra_X} {p : Program} {l : Launch} {e : Env} {s : State} {m : MethodId} {args : Array Value} {below : List Frame} {meth : Method} {c : Code} {Z : ra_R} {c0 c1 c2 : ra_Sp}  (h0 : ra_MOK l X mi_R_isNoSheet c0) (h1 : ra_MOK l X mi_R_find c1) (h2 : ra_MOK l X mi_Wt_take c2) (F : ra_Fx X p rm_R_read s m args c prog_1_method_7_code 4 cn_R) (hr : meth.sig.returnType = (some .int)) (hlk : meth.locks = false) {I : Nat → ra_K} (hI : ∀ t ∈ [32], ra_At X p l e rm_R_read s m args below meth c 4 (MQ below (ra_Qc X Z) args s 0 0 (ra_A X)) (I t) t) : ra_At X p l e rm_R_read s m args below meth c 4 (MQ below (ra_Qc X Z) args s 0 0 (ra_A X)) (b_R_read_40 c0 c1 c2 I Z) 40 :=
  r_aload_n F d_R_read_40 rfl <| r_getR F cg_R (j := 1) (by decide) rfl fl_R_19 d_R_read_41 <| r_aload_n F d_R_read_44 rfl <| r_getR F cg_Sh (j := 0) (by decide) rfl fl_R_132 d_R_read_45 <| r_iload_n F d_R_read_48 rfl <| r_iaload F d_R_read_49 <| r_callV F h2 (co_Wt_take (by decide +kernel) (by decide +kernel)) ⟨rfl, by decide +kernel⟩ ⟨rfl, by decide⟩ ml_R_115 im_Wt_take se_Wt_take d_R_read_50 <| r_if_lt F d_R_read_53 (by decide) (o_R_read_62 h0 h1 h2 F hr hlk hI) (o_R_read_56 h0 h1 h2 F hr hlk hI)
theorem o_R_read_32 {X : ra_X} {p : Program} {l : Launch} {e : Env} {s : State} {m : MethodId} {args : Array Value} {below : List Frame} {meth : Method} {c : Code} {Z : ra_R} {c0 c1 c2 : ra_Sp}  (h0 : ra_MOK l X mi_R_isNoSheet c0) (h1 : ra_MOK l X mi_R_find c1) (h2 : ra_MOK l X mi_Wt_take c2) (F : ra_Fx X p rm_R_read s m args c prog_1_method_7_code 4 cn_R) (hr : meth.sig.returnType = (some .int)) (hlk : meth.locks = false) {I : Nat → ra_K} (hI : ∀ t ∈ [32], ra_At X p l e rm_R_read s m args below meth c 4 (MQ below (ra_Qc X Z) args s 0 0 (ra_A X)) (I t) t) : ra_At X p l e rm_R_read s m args below meth c 4 (MQ below (ra_Qc X Z) args s 0 0 (ra_A X)) (b_R_read_32 c0 c1 c2 I Z) 32 :=
  r_iload_n F d_R_read_32 rfl <| r_aload_n F d_R_read_33 rfl <| r_getI F cg_Sh (j := 3) (by decide) rfl fl_R_129 d_R_read_34 <| r_icmp_ge F d_R_read_37 (by decide) (o_R_read_62 h0 h1 h2 F hr hlk hI) (o_R_read_40 h0 h1 h2 F hr hlk hI)
theorem o_R_read_30 {X : ra_X} {p : Program} {l : Launch} {e : Env} {s : State} {m : MethodId} {args : Array Value} {below : List Frame} {meth : Method} {c : Code} {Z : ra_R} {c0 c1 c2 : ra_Sp}  (h0 : ra_MOK l X mi_R_isNoSheet c0) (h1 : ra_MOK l X mi_R_find c1) (h2 : ra_MOK l X mi_Wt_take c2) (F : ra_Fx X p rm_R_read s m args c prog_1_method_7_code 4 cn_R) (hr : meth.sig.returnType = (some .int)) (hlk : meth.locks = false) {I : Nat → ra_K} (hI : ∀ t ∈ [32], ra_At X p l e rm_R_read s m args below meth c 4 (MQ below (ra_Qc X Z) args s 0 0 (ra_A X)) (I t) t) : ra_At X p l e rm_R_read s m args below meth c 4 (MQ below (ra_Qc X Z) args s 0 0 (ra_A X)) (b_R_read_30 c0 c1 c2 I Z) 30 :=
  r_iconst F d_R_read_30 (by decide) <| r_istore_n F d_R_read_31 rfl (by decide) <| (hI 32 (by decide))
theorem o_R_read_24 {X : ra_X} {p : Program} {l : Launch} {e : Env} {s : State} {m : MethodId} {args : Array Value} {below : List Frame} {meth : Method} {c : Code} {Z : ra_R} {c0 c1 c2 : ra_Sp}  (h0 : ra_MOK l X mi_R_isNoSheet c0) (h1 : ra_MOK l X mi_R_find c1) (h2 : ra_MOK l X mi_Wt_take c2) (F : ra_Fx X p rm_R_read s m args c prog_1_method_7_code 4 cn_R) (hr : meth.sig.returnType = (some .int)) (hlk : meth.locks = false) {I : Nat → ra_K} (hI : ∀ t ∈ [32], ra_At X p l e rm_R_read s m args below meth c 4 (MQ below (ra_Qc X Z) args s 0 0 (ra_A X)) (I t) t) : ra_At X p l e rm_R_read s m args below meth c 4 (MQ below (ra_Qc X Z) args s 0 0 (ra_A X)) (b_R_read_24 c0 c1 c2 I Z) 24 :=
  r_aload_n F d_R_read_24 rfl <| r_iconst F d_R_read_25 (by decide) <| r_callV F h1 (co_R_find (by decide +kernel) (by decide +kernel)) ⟨rfl, by decide +kernel⟩ ⟨rfl, by decide⟩ ml_R_126 im_R_find se_R_find d_R_read_26 <| r_ireturn F hr hlk d_R_read_29
theorem o_R_read_10 {X : ra_X} {p : Program} {l : Launch} {e : Env} {s : State} {m : MethodId} {args : Array Value} {below : List Frame} {meth : Method} {c : Code} {Z : ra_R} {c0 c1 c2 : ra_Sp}  (h0 : ra_MOK l X mi_R_isNoSheet c0) (h1 : ra_MOK l X mi_R_find c1) (h2 : ra_MOK l X mi_Wt_take c2) (F : ra_Fx X p rm_R_read s m args c prog_1_method_7_code 4 cn_R) (hr : meth.sig.returnType = (some .int)) (hlk : meth.locks = false) {I : Nat → ra_K} (hI : ∀ t ∈ [32], ra_At X p l e rm_R_read s m args below meth c 4 (MQ below (ra_Qc X Z) args s 0 0 (ra_A X)) (I t) t) : ra_At X p l e rm_R_read s m args below meth c 4 (MQ below (ra_Qc X Z) args s 0 0 (ra_A X)) (b_R_read_10 c0 c1 c2 I Z) 10 :=
  r_aload_n F d_R_read_10 rfl <| r_getR F cg_R (j := 8) (by decide) rfl fl_R_68 d_R_read_11 <| r_iload_n F d_R_read_14 rfl <| r_aaloadS F d_R_read_15 <| r_astore_n F d_R_read_16 rfl (by decide) <| r_aload_n F d_R_read_17 rfl <| r_getI F cg_Sh (j := 1) (by decide) rfl fl_R_122 d_R_read_18 <| r_if_eq F d_R_read_21 (by decide) (o_R_read_30 h0 h1 h2 F hr hlk hI) (o_R_read_24 h0 h1 h2 F hr hlk hI)
theorem o_R_read_7 {X : ra_X} {p : Program} {l : Launch} {e : Env} {s : State} {m : MethodId} {args : Array Value} {below : List Frame} {meth : Method} {c : Code} {Z : ra_R} {c0 c1 c2 : ra_Sp}  (h0 : ra_MOK l X mi_R_isNoSheet c0) (h1 : ra_MOK l X mi_R_find c1) (h2 : ra_MOK l X mi_Wt_take c2) (F : ra_Fx X p rm_R_read s m args c prog_1_method_7_code 4 cn_R) (hr : meth.sig.returnType = (some .int)) (hlk : meth.locks = false) {I : Nat → ra_K} (hI : ∀ t ∈ [32], ra_At X p l e rm_R_read s m args below meth c 4 (MQ below (ra_Qc X Z) args s 0 0 (ra_A X)) (I t) t) : ra_At X p l e rm_R_read s m args below meth c 4 (MQ below (ra_Qc X Z) args s 0 0 (ra_A X)) (b_R_read_7 c0 c1 c2 I Z) 7 :=
  r_bipush F d_R_read_7 (by decide) <| r_ireturn F hr hlk d_R_read_9
theorem o_R_read_0 {X : ra_X} {p : Program} {l : Launch} {e : Env} {s : State} {m : MethodId} {args : Array Value} {below : List Frame} {meth : Method} {c : Code} {Z : ra_R} {c0 c1 c2 : ra_Sp}  (h0 : ra_MOK l X mi_R_isNoSheet c0) (h1 : ra_MOK l X mi_R_find c1) (h2 : ra_MOK l X mi_Wt_take c2) (F : ra_Fx X p rm_R_read s m args c prog_1_method_7_code 4 cn_R) (hr : meth.sig.returnType = (some .int)) (hlk : meth.locks = false) {I : Nat → ra_K} (hI : ∀ t ∈ [32], ra_At X p l e rm_R_read s m args below meth c 4 (MQ below (ra_Qc X Z) args s 0 0 (ra_A X)) (I t) t) : ra_At X p l e rm_R_read s m args below meth c 4 (MQ below (ra_Qc X Z) args s 0 0 (ra_A X)) (b_R_read_0 c0 c1 c2 I Z) 0 :=
  r_iload_n F d_R_read_0 rfl <| r_callS F h0 (co_R_isNoSheet (by decide +kernel) (by decide +kernel)) ⟨rfl, by decide +kernel⟩ ml_R_119 st_R_isNoSheet d_R_read_1 <| r_if_eq F d_R_read_4 (by decide) (o_R_read_10 h0 h1 h2 F hr hlk hI) (o_R_read_7 h0 h1 h2 F hr hlk hI)
theorem g_R_read {l : Launch} {X : ra_X} {c0 c1 c2 : ra_Sp}  (h0 : ra_MOK l X mi_R_isNoSheet c0) (h1 : ra_MOK l X mi_R_find c1) (h2 : ra_MOK l X mi_Wt_take c2) (sp : ra_Sp) (I : ra_R → List Value → ra_St → Nat → ra_M → ra_K) (ve : ∀ as σ Z, ra_c1 as = true → as.length = 2 → sp as σ Z → b_R_read_0 c0 c1 c2 (ra_I (I Z as σ)) Z (ra_pad 4 as) [] σ) (v32 : ∀ as σ Z, sp as σ Z → ∀ μ L S σ1, I Z as σ 32 μ L S σ1 → b_R_read_32 c0 c1 c2 (ra_J (I Z as σ) μ) Z L S σ1) : ra_MOK l X mi_R_read sp := by
  refine ra_enter (k := fun Z as σ => b_R_read_0 c0 c1 c2 (ra_I (I Z as σ)) Z) cn_R rfl (by decide +kernel) ⟨by decide +kernel, by decide +kernel⟩ (by decide +kernel) ?_ ve
  intro p e s m args below meth c Z as σ hsp F hr hlk
  refine o_R_read_0 h0 h1 h2 F hr hlk (ra_cuts (b := fun t J => if t = 32 then b_R_read_32 c0 c1 c2 J Z else fun _ _ _ => False) ?_ ?_)
  · intro t ht J hJ
    simp only [List.mem_cons, List.not_mem_nil, or_false] at ht
    rcases ht with rfl
    · exact o_R_read_32 h0 h1 h2 F hr hlk hJ
  · intro t ht μ L S σ1 hI
    simp only [List.mem_cons, List.not_mem_nil, or_false] at ht
    rcases ht with rfl
    · exact v32 as σ Z hsp μ L S σ1 hI

theorem d_Wt_takeBack_0 : decode prog_11_method_3_code 0 = .ok (.aload_n 0, 1) := by decide +kernel
theorem d_Wt_takeBack_1 : decode prog_11_method_3_code 1 = .ok (.getfield 23, 3) := by decide +kernel
theorem d_Wt_takeBack_4 : decode prog_11_method_3_code 4 = .ok (.ifCond .ne 6, 3) := by decide +kernel
theorem d_Wt_takeBack_7 : decode prog_11_method_3_code 7 = .ok (.bipush (-3), 2) := by decide +kernel
theorem d_Wt_takeBack_9 : decode prog_11_method_3_code 9 = .ok (.ireturn, 1) := by decide +kernel
theorem d_Wt_takeBack_10 : decode prog_11_method_3_code 10 = .ok (.aload_n 0, 1) := by decide +kernel
theorem d_Wt_takeBack_11 : decode prog_11_method_3_code 11 = .ok (.dup, 1) := by decide +kernel
theorem d_Wt_takeBack_12 : decode prog_11_method_3_code 12 = .ok (.getfield 23, 3) := by decide +kernel
theorem d_Wt_takeBack_15 : decode prog_11_method_3_code 15 = .ok (.iconst 1, 1) := by decide +kernel
theorem d_Wt_takeBack_16 : decode prog_11_method_3_code 16 = .ok (.isub, 1) := by decide +kernel
theorem d_Wt_takeBack_17 : decode prog_11_method_3_code 17 = .ok (.putfield 23, 3) := by decide +kernel
theorem d_Wt_takeBack_20 : decode prog_11_method_3_code 20 = .ok (.aload_n 0, 1) := by decide +kernel
theorem d_Wt_takeBack_21 : decode prog_11_method_3_code 21 = .ok (.dup, 1) := by decide +kernel
theorem d_Wt_takeBack_22 : decode prog_11_method_3_code 22 = .ok (.getfield 26, 3) := by decide +kernel
theorem d_Wt_takeBack_25 : decode prog_11_method_3_code 25 = .ok (.iconst 1, 1) := by decide +kernel
theorem d_Wt_takeBack_26 : decode prog_11_method_3_code 26 = .ok (.iadd, 1) := by decide +kernel
theorem d_Wt_takeBack_27 : decode prog_11_method_3_code 27 = .ok (.putfield 26, 3) := by decide +kernel
theorem d_Wt_takeBack_30 : decode prog_11_method_3_code 30 = .ok (.aload_n 0, 1) := by decide +kernel
theorem d_Wt_takeBack_31 : decode prog_11_method_3_code 31 = .ok (.getfield 23, 3) := by decide +kernel
theorem d_Wt_takeBack_34 : decode prog_11_method_3_code 34 = .ok (.ireturn, 1) := by decide +kernel
def b_Wt_takeBack_10 (Z : ra_R) : ra_K := w_al 0 <| w_dup <| w_gi 3 1 <| w_c 1 <| w_i2 (fun x y => x - y) <| w_pi 3 1 <| w_al 0 <| w_dup <| w_gi 3 4 <| w_c 1 <| w_i2 (fun x y => x + y) <| w_pi 3 4 <| w_al 0 <| w_gi 3 1 <| w_ir Z
def b_Wt_takeBack_7 (Z : ra_R) : ra_K := w_c (-3) <| w_ir Z
def b_Wt_takeBack_0 (Z : ra_R) : ra_K := w_al 0 <| w_gi 3 1 <| w_b1 (fun x => x = 0) (b_Wt_takeBack_7 Z) (b_Wt_takeBack_10 Z)
theorem o_Wt_takeBack_10 {X : ra_X} {p : Program} {l : Launch} {e : Env} {s : State} {m : MethodId} {args : Array Value} {below : List Frame} {meth : Method} {c : Code} {Z : ra_R}  (F : ra_Fx X p rm_Wt_takeBack s m args c prog_11_method_3_code 1 cn_Wt) (hr : meth.sig.returnType = (some .int)) (hlk : meth.locks = false) : ra_At X p l e rm_Wt_takeBack s m args below meth c 1 (MQ below (ra_Qc X Z) args s 0 0 (ra_A X)) (b_Wt_takeBack_10 Z) 10 :=
  r_aload_n F d_Wt_takeBack_10 rfl <| r_dup F d_Wt_takeBack_11 <| r_getI F cg_Wt (j := 1) (by decide) rfl fl_Wt_23 d_Wt_takeBack_12 <| r_iconst F d_Wt_takeBack_15 (by decide) <| r_isub F d_Wt_takeBack_16 <| r_putI F cg_Wt (j := 1) (by decide) rfl rfl rfl fl_Wt_23 d_Wt_takeBack_17 <| r_aload_n F d_Wt_takeBack_20 rfl <| r_dup F d_Wt_takeBack_21 <| r_getI F cg_Wt (j := 4) (by decide) rfl fl_Wt_26 d_Wt_takeBack_22 <| r_iconst F d_Wt_takeBack_25 (by decide) <| r_iadd F d_Wt_takeBack_26 <| r_putI F cg_Wt (j := 4) (by decide) rfl rfl rfl fl_Wt_26 d_Wt_takeBack_27 <| r_aload_n F d_Wt_takeBack_30 rfl <| r_getI F cg_Wt (j := 1) (by decide) rfl fl_Wt_23 d_Wt_takeBack_31 <| r_ireturn F hr hlk d_Wt_takeBack_34
theorem o_Wt_takeBack_7 {X : ra_X} {p : Program} {l : Launch} {e : Env} {s : State} {m : MethodId} {args : Array Value} {below : List Frame} {meth : Method} {c : Code} {Z : ra_R}  (F : ra_Fx X p rm_Wt_takeBack s m args c prog_11_method_3_code 1 cn_Wt) (hr : meth.sig.returnType = (some .int)) (hlk : meth.locks = false) : ra_At X p l e rm_Wt_takeBack s m args below meth c 1 (MQ below (ra_Qc X Z) args s 0 0 (ra_A X)) (b_Wt_takeBack_7 Z) 7 :=
  r_bipush F d_Wt_takeBack_7 (by decide) <| r_ireturn F hr hlk d_Wt_takeBack_9
theorem o_Wt_takeBack_0 {X : ra_X} {p : Program} {l : Launch} {e : Env} {s : State} {m : MethodId} {args : Array Value} {below : List Frame} {meth : Method} {c : Code} {Z : ra_R}  (F : ra_Fx X p rm_Wt_takeBack s m args c prog_11_method_3_code 1 cn_Wt) (hr : meth.sig.returnType = (some .int)) (hlk : meth.locks = false) : ra_At X p l e rm_Wt_takeBack s m args below meth c 1 (MQ below (ra_Qc X Z) args s 0 0 (ra_A X)) (b_Wt_takeBack_0 Z) 0 :=
  r_aload_n F d_Wt_takeBack_0 rfl <| r_getI F cg_Wt (j := 1) (by decide) rfl fl_Wt_23 d_Wt_takeBack_1 <| r_if_ne F d_Wt_takeBack_4 (by decide) (o_Wt_takeBack_10 F hr hlk) (o_Wt_takeBack_7 F hr hlk)
theorem g_Wt_takeBack {l : Launch} {X : ra_X}  (sp : ra_Sp) (ve : ∀ as σ Z, ra_c1 as = true → as.length = 1 → sp as σ Z → b_Wt_takeBack_0 Z (ra_pad 1 as) [] σ) : ra_MOK l X mi_Wt_takeBack sp := by
  refine ra_enter (k := fun Z as σ => b_Wt_takeBack_0 Z) cn_Wt rfl (by decide +kernel) ⟨by decide +kernel, by decide +kernel⟩ (by decide +kernel) ?_ ve
  intro p e s m args below meth c Z as σ hsp F hr hlk
  exact o_Wt_takeBack_0 F hr hlk

theorem d_R_undo_0 : decode prog_1_method_8_code 0 = .ok (.aload_n 0, 1) := by decide +kernel
theorem d_R_undo_1 : decode prog_1_method_8_code 1 = .ok (.getfield 19, 3) := by decide +kernel
theorem d_R_undo_4 : decode prog_1_method_8_code 4 = .ok (.invokevirtual 135, 3) := by decide +kernel
theorem d_R_undo_7 : decode prog_1_method_8_code 7 = .ok (.ireturn, 1) := by decide +kernel
def b_R_undo_0 (c0 : ra_Sp) (Z : ra_R) : ra_K := w_al 0 <| w_gr 0 1 <| w_cv c0 1 3 <| w_ir Z
theorem o_R_undo_0 {X : ra_X} {p : Program} {l : Launch} {e : Env} {s : State} {m : MethodId} {args : Array Value} {below : List Frame} {meth : Method} {c : Code} {Z : ra_R} {c0 : ra_Sp}  (h0 : ra_MOK l X mi_Wt_takeBack c0) (F : ra_Fx X p rm_R_undo s m args c prog_1_method_8_code 1 cn_R) (hr : meth.sig.returnType = (some .int)) (hlk : meth.locks = false) : ra_At X p l e rm_R_undo s m args below meth c 1 (MQ below (ra_Qc X Z) args s 0 0 (ra_A X)) (b_R_undo_0 c0 Z) 0 :=
  r_aload_n F d_R_undo_0 rfl <| r_getR F cg_R (j := 1) (by decide) rfl fl_R_19 d_R_undo_1 <| r_callV F h0 (co_Wt_takeBack (by decide +kernel) (by decide +kernel)) ⟨rfl, by decide +kernel⟩ ⟨rfl, by decide⟩ ml_R_135 im_Wt_takeBack se_Wt_takeBack d_R_undo_4 <| r_ireturn F hr hlk d_R_undo_7
theorem g_R_undo {l : Launch} {X : ra_X} {c0 : ra_Sp}  (h0 : ra_MOK l X mi_Wt_takeBack c0) (sp : ra_Sp) (ve : ∀ as σ Z, ra_c1 as = true → as.length = 1 → sp as σ Z → b_R_undo_0 c0 Z (ra_pad 1 as) [] σ) : ra_MOK l X mi_R_undo sp := by
  refine ra_enter (k := fun Z as σ => b_R_undo_0 c0 Z) cn_R rfl (by decide +kernel) ⟨by decide +kernel, by decide +kernel⟩ (by decide +kernel) ?_ ve
  intro p e s m args below meth c Z as σ hsp F hr hlk
  exact o_R_undo_0 h0 F hr hlk

theorem d_Wt_changePrice_0 : decode prog_11_method_4_code 0 = .ok (.aload_n 0, 1) := by decide +kernel
theorem d_Wt_changePrice_1 : decode prog_11_method_4_code 1 = .ok (.getfield 15, 3) := by decide +kernel
theorem d_Wt_changePrice_4 : decode prog_11_method_4_code 4 = .ok (.istore_n 2, 1) := by decide +kernel
theorem d_Wt_changePrice_5 : decode prog_11_method_4_code 5 = .ok (.aload_n 0, 1) := by decide +kernel
theorem d_Wt_changePrice_6 : decode prog_11_method_4_code 6 = .ok (.iload_n 1, 1) := by decide +kernel
theorem d_Wt_changePrice_7 : decode prog_11_method_4_code 7 = .ok (.putfield 15, 3) := by decide +kernel
theorem d_Wt_changePrice_10 : decode prog_11_method_4_code 10 = .ok (.aload_n 0, 1) := by decide +kernel
theorem d_Wt_changePrice_11 : decode prog_11_method_4_code 11 = .ok (.dup, 1) := by decide +kernel
theorem d_Wt_changePrice_12 : decode prog_11_method_4_code 12 = .ok (.getfield 26, 3) := by decide +kernel
theorem d_Wt_changePrice_15 : decode prog_11_method_4_code 15 = .ok (.iconst 1, 1) := by decide +kernel
theorem d_Wt_changePrice_16 : decode prog_11_method_4_code 16 = .ok (.iadd, 1) := by decide +kernel
theorem d_Wt_changePrice_17 : decode prog_11_method_4_code 17 = .ok (.putfield 26, 3) := by decide +kernel
theorem d_Wt_changePrice_20 : decode prog_11_method_4_code 20 = .ok (.iload_n 2, 1) := by decide +kernel
theorem d_Wt_changePrice_21 : decode prog_11_method_4_code 21 = .ok (.ireturn, 1) := by decide +kernel
def b_Wt_changePrice_0 (Z : ra_R) : ra_K := w_al 0 <| w_gi 3 2 <| w_is 2 <| w_al 0 <| w_il 1 <| w_pi 3 2 <| w_al 0 <| w_dup <| w_gi 3 4 <| w_c 1 <| w_i2 (fun x y => x + y) <| w_pi 3 4 <| w_il 2 <| w_ir Z
theorem o_Wt_changePrice_0 {X : ra_X} {p : Program} {l : Launch} {e : Env} {s : State} {m : MethodId} {args : Array Value} {below : List Frame} {meth : Method} {c : Code} {Z : ra_R}  (F : ra_Fx X p rm_Wt_changePrice s m args c prog_11_method_4_code 3 cn_Wt) (hr : meth.sig.returnType = (some .int)) (hlk : meth.locks = false) : ra_At X p l e rm_Wt_changePrice s m args below meth c 3 (MQ below (ra_Qc X Z) args s 0 0 (ra_A X)) (b_Wt_changePrice_0 Z) 0 :=
  r_aload_n F d_Wt_changePrice_0 rfl <| r_getI F cg_Wt (j := 2) (by decide) rfl fl_Wt_15 d_Wt_changePrice_1 <| r_istore_n F d_Wt_changePrice_4 rfl (by decide) <| r_aload_n F d_Wt_changePrice_5 rfl <| r_iload_n F d_Wt_changePrice_6 rfl <| r_putI F cg_Wt (j := 2) (by decide) rfl rfl rfl fl_Wt_15 d_Wt_changePrice_7 <| r_aload_n F d_Wt_changePrice_10 rfl <| r_dup F d_Wt_changePrice_11 <| r_getI F cg_Wt (j := 4) (by decide) rfl fl_Wt_26 d_Wt_changePrice_12 <| r_iconst F d_Wt_changePrice_15 (by decide) <| r_iadd F d_Wt_changePrice_16 <| r_putI F cg_Wt (j := 4) (by decide) rfl rfl rfl fl_Wt_26 d_Wt_changePrice_17 <| r_iload_n F d_Wt_changePrice_20 rfl <| r_ireturn F hr hlk d_Wt_changePrice_21
theorem g_Wt_changePrice {l : Launch} {X : ra_X}  (sp : ra_Sp) (ve : ∀ as σ Z, ra_c1 as = true → as.length = 2 → sp as σ Z → b_Wt_changePrice_0 Z (ra_pad 3 as) [] σ) : ra_MOK l X mi_Wt_changePrice sp := by
  refine ra_enter (k := fun Z as σ => b_Wt_changePrice_0 Z) cn_Wt rfl (by decide +kernel) ⟨by decide +kernel, by decide +kernel⟩ (by decide +kernel) ?_ ve
  intro p e s m args below meth c Z as σ hsp F hr hlk
  exact o_Wt_changePrice_0 F hr hlk

theorem d_Wt_changeWear_0 : decode prog_11_method_5_code 0 = .ok (.aload_n 0, 1) := by decide +kernel
theorem d_Wt_changeWear_1 : decode prog_11_method_5_code 1 = .ok (.getfield 29, 3) := by decide +kernel
theorem d_Wt_changeWear_4 : decode prog_11_method_5_code 4 = .ok (.istore_n 2, 1) := by decide +kernel
theorem d_Wt_changeWear_5 : decode prog_11_method_5_code 5 = .ok (.aload_n 0, 1) := by decide +kernel
theorem d_Wt_changeWear_6 : decode prog_11_method_5_code 6 = .ok (.iload_n 1, 1) := by decide +kernel
theorem d_Wt_changeWear_7 : decode prog_11_method_5_code 7 = .ok (.putfield 29, 3) := by decide +kernel
theorem d_Wt_changeWear_10 : decode prog_11_method_5_code 10 = .ok (.aload_n 0, 1) := by decide +kernel
theorem d_Wt_changeWear_11 : decode prog_11_method_5_code 11 = .ok (.dup, 1) := by decide +kernel
theorem d_Wt_changeWear_12 : decode prog_11_method_5_code 12 = .ok (.getfield 26, 3) := by decide +kernel
theorem d_Wt_changeWear_15 : decode prog_11_method_5_code 15 = .ok (.iconst 1, 1) := by decide +kernel
theorem d_Wt_changeWear_16 : decode prog_11_method_5_code 16 = .ok (.iadd, 1) := by decide +kernel
theorem d_Wt_changeWear_17 : decode prog_11_method_5_code 17 = .ok (.putfield 26, 3) := by decide +kernel
theorem d_Wt_changeWear_20 : decode prog_11_method_5_code 20 = .ok (.iload_n 2, 1) := by decide +kernel
theorem d_Wt_changeWear_21 : decode prog_11_method_5_code 21 = .ok (.ireturn, 1) := by decide +kernel
def b_Wt_changeWear_0 (Z : ra_R) : ra_K := w_al 0 <| w_gi 3 3 <| w_is 2 <| w_al 0 <| w_il 1 <| w_pi 3 3 <| w_al 0 <| w_dup <| w_gi 3 4 <| w_c 1 <| w_i2 (fun x y => x + y) <| w_pi 3 4 <| w_il 2 <| w_ir Z
theorem o_Wt_changeWear_0 {X : ra_X} {p : Program} {l : Launch} {e : Env} {s : State} {m : MethodId} {args : Array Value} {below : List Frame} {meth : Method} {c : Code} {Z : ra_R}  (F : ra_Fx X p rm_Wt_changeWear s m args c prog_11_method_5_code 3 cn_Wt) (hr : meth.sig.returnType = (some .int)) (hlk : meth.locks = false) : ra_At X p l e rm_Wt_changeWear s m args below meth c 3 (MQ below (ra_Qc X Z) args s 0 0 (ra_A X)) (b_Wt_changeWear_0 Z) 0 :=
  r_aload_n F d_Wt_changeWear_0 rfl <| r_getI F cg_Wt (j := 3) (by decide) rfl fl_Wt_29 d_Wt_changeWear_1 <| r_istore_n F d_Wt_changeWear_4 rfl (by decide) <| r_aload_n F d_Wt_changeWear_5 rfl <| r_iload_n F d_Wt_changeWear_6 rfl <| r_putI F cg_Wt (j := 3) (by decide) rfl rfl rfl fl_Wt_29 d_Wt_changeWear_7 <| r_aload_n F d_Wt_changeWear_10 rfl <| r_dup F d_Wt_changeWear_11 <| r_getI F cg_Wt (j := 4) (by decide) rfl fl_Wt_26 d_Wt_changeWear_12 <| r_iconst F d_Wt_changeWear_15 (by decide) <| r_iadd F d_Wt_changeWear_16 <| r_putI F cg_Wt (j := 4) (by decide) rfl rfl rfl fl_Wt_26 d_Wt_changeWear_17 <| r_iload_n F d_Wt_changeWear_20 rfl <| r_ireturn F hr hlk d_Wt_changeWear_21
theorem g_Wt_changeWear {l : Launch} {X : ra_X}  (sp : ra_Sp) (ve : ∀ as σ Z, ra_c1 as = true → as.length = 2 → sp as σ Z → b_Wt_changeWear_0 Z (ra_pad 3 as) [] σ) : ra_MOK l X mi_Wt_changeWear sp := by
  refine ra_enter (k := fun Z as σ => b_Wt_changeWear_0 Z) cn_Wt rfl (by decide +kernel) ⟨by decide +kernel, by decide +kernel⟩ (by decide +kernel) ?_ ve
  intro p e s m args below meth c Z as σ hsp F hr hlk
  exact o_Wt_changeWear_0 F hr hlk

theorem d_R_set_0 : decode prog_1_method_9_code 0 = .ok (.iload_n 1, 1) := by decide +kernel
theorem d_R_set_1 : decode prog_1_method_9_code 1 = .ok (.ifCond .ne 27, 3) := by decide +kernel
theorem d_R_set_4 : decode prog_1_method_9_code 4 = .ok (.iload_n 2, 1) := by decide +kernel
theorem d_R_set_5 : decode prog_1_method_9_code 5 = .ok (.iconst 1, 1) := by decide +kernel
theorem d_R_set_6 : decode prog_1_method_9_code 6 = .ok (.bipush 9, 2) := by decide +kernel
theorem d_R_set_8 : decode prog_1_method_9_code 8 = .ok (.invokestatic 73, 3) := by decide +kernel
theorem d_R_set_11 : decode prog_1_method_9_code 11 = .ok (.ifCond .eq 8, 3) := by decide +kernel
theorem d_R_set_14 : decode prog_1_method_9_code 14 = .ok (.bipush (-2), 2) := by decide +kernel
theorem d_R_set_16 : decode prog_1_method_9_code 16 = .ok (.goto 11, 3) := by decide +kernel
theorem d_R_set_19 : decode prog_1_method_9_code 19 = .ok (.aload_n 0, 1) := by decide +kernel
theorem d_R_set_20 : decode prog_1_method_9_code 20 = .ok (.getfield 19, 3) := by decide +kernel
theorem d_R_set_23 : decode prog_1_method_9_code 23 = .ok (.iload_n 2, 1) := by decide +kernel
theorem d_R_set_24 : decode prog_1_method_9_code 24 = .ok (.invokevirtual 139, 3) := by decide +kernel
theorem d_R_set_27 : decode prog_1_method_9_code 27 = .ok (.ireturn, 1) := by decide +kernel
theorem d_R_set_28 : decode prog_1_method_9_code 28 = .ok (.iload_n 1, 1) := by decide +kernel
theorem d_R_set_29 : decode prog_1_method_9_code 29 = .ok (.iconst 1, 1) := by decide +kernel
theorem d_R_set_30 : decode prog_1_method_9_code 30 = .ok (.if_icmp .ne 26, 3) := by decide +kernel
theorem d_R_set_33 : decode prog_1_method_9_code 33 = .ok (.iload_n 2, 1) := by decide +kernel
theorem d_R_set_34 : decode prog_1_method_9_code 34 = .ok (.iconst 0, 1) := by decide +kernel
theorem d_R_set_35 : decode prog_1_method_9_code 35 = .ok (.iconst 1, 1) := by decide +kernel
theorem d_R_set_36 : decode prog_1_method_9_code 36 = .ok (.invokestatic 73, 3) := by decide +kernel
theorem d_R_set_39 : decode prog_1_method_9_code 39 = .ok (.ifCond .eq 8, 3) := by decide +kernel
theorem d_R_set_42 : decode prog_1_method_9_code 42 = .ok (.bipush (-2), 2) := by decide +kernel
theorem d_R_set_44 : decode prog_1_method_9_code 44 = .ok (.goto 11, 3) := by decide +kernel
theorem d_R_set_47 : decode prog_1_method_9_code 47 = .ok (.aload_n 0, 1) := by decide +kernel
theorem d_R_set_48 : decode prog_1_method_9_code 48 = .ok (.getfield 19, 3) := by decide +kernel
theorem d_R_set_51 : decode prog_1_method_9_code 51 = .ok (.iload_n 2, 1) := by decide +kernel
theorem d_R_set_52 : decode prog_1_method_9_code 52 = .ok (.invokevirtual 142, 3) := by decide +kernel
theorem d_R_set_55 : decode prog_1_method_9_code 55 = .ok (.ireturn, 1) := by decide +kernel
theorem d_R_set_56 : decode prog_1_method_9_code 56 = .ok (.bipush (-2), 2) := by decide +kernel
theorem d_R_set_58 : decode prog_1_method_9_code 58 = .ok (.ireturn, 1) := by decide +kernel
def b_R_set_56 (c0 c1 c2 : ra_Sp) (Z : ra_R) : ra_K := w_c (-2) <| w_ir Z
def b_R_set_55 (c0 c1 c2 : ra_Sp) (Z : ra_R) : ra_K := w_ir Z
def b_R_set_47 (c0 c1 c2 : ra_Sp) (Z : ra_R) : ra_K := w_al 0 <| w_gr 0 1 <| w_il 2 <| w_cv c2 2 3 <| (b_R_set_55 c0 c1 c2 Z)
def b_R_set_42 (c0 c1 c2 : ra_Sp) (Z : ra_R) : ra_K := w_c (-2) <| (b_R_set_55 c0 c1 c2 Z)
def b_R_set_33 (c0 c1 c2 : ra_Sp) (Z : ra_R) : ra_K := w_il 2 <| w_c 0 <| w_c 1 <| w_cs c0 3 <| w_b1 (fun x => x = 0) (b_R_set_47 c0 c1 c2 Z) (b_R_set_42 c0 c1 c2 Z)
def b_R_set_28 (c0 c1 c2 : ra_Sp) (Z : ra_R) : ra_K := w_il 1 <| w_c 1 <| w_b2 (fun x y => x = y) (b_R_set_33 c0 c1 c2 Z) (b_R_set_56 c0 c1 c2 Z)
def b_R_set_27 (c0 c1 c2 : ra_Sp) (Z : ra_R) : ra_K := w_ir Z
def b_R_set_19 (c0 c1 c2 : ra_Sp) (Z : ra_R) : ra_K := w_al 0 <| w_gr 0 1 <| w_il 2 <| w_cv c1 2 3 <| (b_R_set_27 c0 c1 c2 Z)
def b_R_set_14 (c0 c1 c2 : ra_Sp) (Z : ra_R) : ra_K := w_c (-2) <| (b_R_set_27 c0 c1 c2 Z)
def b_R_set_4 (c0 c1 c2 : ra_Sp) (Z : ra_R) : ra_K := w_il 2 <| w_c 1 <| w_c 9 <| w_cs c0 3 <| w_b1 (fun x => x = 0) (b_R_set_19 c0 c1 c2 Z) (b_R_set_14 c0 c1 c2 Z)
def b_R_set_0 (c0 c1 c2 : ra_Sp) (Z : ra_R) : ra_K := w_il 1 <| w_b1 (fun x => x = 0) (b_R_set_4 c0 c1 c2 Z) (b_R_set_28 c0 c1 c2 Z)
theorem o_R_set_56 {X : ra_X} {p : Program} {l : Launch} {e : Env} {s : State} {m : MethodId} {args : Array Value} {below : List Frame} {meth : Method} {c : Code} {Z : ra_R} {c0 c1 c2 : ra_Sp}  (h0 : ra_MOK l X mi_R_isOutside c0) (h1 : ra_MOK l X mi_Wt_changePrice c1) (h2 : ra_MOK l X mi_Wt_changeWear c2) (F : ra_Fx X p rm_R_set s m args c prog_1_method_9_code 3 cn_R) (hr : meth.sig.returnType = (some .int)) (hlk : meth.locks = false) : ra_At X p l e rm_R_set s m args below meth c 3 (MQ below (ra_Qc X Z) args s 0 0 (ra_A X)) (b_R_set_56 c0 c1 c2 Z) 56 :=
  r_bipush F d_R_set_56 (by decide) <| r_ireturn F hr hlk d_R_set_58
theorem o_R_set_55 {X : ra_X} {p : Program} {l : Launch} {e : Env} {s : State} {m : MethodId} {args : Array Value} {below : List Frame} {meth : Method} {c : Code} {Z : ra_R} {c0 c1 c2 : ra_Sp}  (h0 : ra_MOK l X mi_R_isOutside c0) (h1 : ra_MOK l X mi_Wt_changePrice c1) (h2 : ra_MOK l X mi_Wt_changeWear c2) (F : ra_Fx X p rm_R_set s m args c prog_1_method_9_code 3 cn_R) (hr : meth.sig.returnType = (some .int)) (hlk : meth.locks = false) : ra_At X p l e rm_R_set s m args below meth c 3 (MQ below (ra_Qc X Z) args s 0 0 (ra_A X)) (b_R_set_55 c0 c1 c2 Z) 55 :=
  r_ireturn F hr hlk d_R_set_55
theorem o_R_set_47 {X : ra_X} {p : Program} {l : Launch} {e : Env} {s : State} {m : MethodId} {args : Array Value} {below : List Frame} {meth : Method} {c : Code} {Z : ra_R} {c0 c1 c2 : ra_Sp}  (h0 : ra_MOK l X mi_R_isOutside c0) (h1 : ra_MOK l X mi_Wt_changePrice c1) (h2 : ra_MOK l X mi_Wt_changeWear c2) (F : ra_Fx X p rm_R_set s m args c prog_1_method_9_code 3 cn_R) (hr : meth.sig.returnType = (some .int)) (hlk : meth.locks = false) : ra_At X p l e rm_R_set s m args below meth c 3 (MQ below (ra_Qc X Z) args s 0 0 (ra_A X)) (b_R_set_47 c0 c1 c2 Z) 47 :=
  r_aload_n F d_R_set_47 rfl <| r_getR F cg_R (j := 1) (by decide) rfl fl_R_19 d_R_set_48 <| r_iload_n F d_R_set_51 rfl <| r_callV F h2 (co_Wt_changeWear (by decide +kernel) (by decide +kernel)) ⟨rfl, by decide +kernel⟩ ⟨rfl, by decide⟩ ml_R_142 im_Wt_changeWear se_Wt_changeWear d_R_set_52 <| (o_R_set_55 h0 h1 h2 F hr hlk)
theorem o_R_set_42 {X : ra_X} {p : Program} {l : Launch} {e : Env} {s : State} {m : MethodId} {args : Array Value} {below : List Frame} {meth : Method} {c : Code} {Z : ra_R} {c0 c1 c2 : ra_Sp}  (h0 : ra_MOK l X mi_R_isOutside c0) (h1 : ra_MOK l X mi_Wt_changePrice c1) (h2 : ra_MOK l X mi_Wt_changeWear c2) (F : ra_Fx X p rm_R_set s m args c prog_1_method_9_code 3 cn_R) (hr : meth.sig.returnType = (some .int)) (hlk : meth.locks = false) : ra_At X p l e rm_R_set s m args below meth c 3 (MQ below (ra_Qc X Z) args s 0 0 (ra_A X)) (b_R_set_42 c0 c1 c2 Z) 42 :=
  r_bipush F d_R_set_42 (by decide) <| r_goto F d_R_set_44 (by decide) (o_R_set_55 h0 h1 h2 F hr hlk)
theorem o_R_set_33 {X : ra_X} {p : Program} {l : Launch} {e : Env} {s : State} {m : MethodId} {args : Array Value} {below : List Frame} {meth : Method} {c : Code} {Z : ra_R} {c0 c1 c2 : ra_Sp}  (h0 : ra_MOK l X mi_R_isOutside c0) (h1 : ra_MOK l X mi_Wt_changePrice c1) (h2 : ra_MOK l X mi_Wt_changeWear c2) (F : ra_Fx X p rm_R_set s m args c prog_1_method_9_code 3 cn_R) (hr : meth.sig.returnType = (some .int)) (hlk : meth.locks = false) : ra_At X p l e rm_R_set s m args below meth c 3 (MQ below (ra_Qc X Z) args s 0 0 (ra_A X)) (b_R_set_33 c0 c1 c2 Z) 33 :=
  r_iload_n F d_R_set_33 rfl <| r_iconst F d_R_set_34 (by decide) <| r_iconst F d_R_set_35 (by decide) <| r_callS F h0 (co_R_isOutside (by decide +kernel) (by decide +kernel)) ⟨rfl, by decide +kernel⟩ ml_R_73 st_R_isOutside d_R_set_36 <| r_if_eq F d_R_set_39 (by decide) (o_R_set_47 h0 h1 h2 F hr hlk) (o_R_set_42 h0 h1 h2 F hr hlk)
theorem o_R_set_28 {X : ra_X} {p : Program} {l : Launch} {e : Env} {s : State} {m : MethodId} {args : Array Value} {below : List Frame} {meth : Method} {c : Code} {Z : ra_R} {c0 c1 c2 : ra_Sp}  (h0 : ra_MOK l X mi_R_isOutside c0) (h1 : ra_MOK l X mi_Wt_changePrice c1) (h2 : ra_MOK l X mi_Wt_changeWear c2) (F : ra_Fx X p rm_R_set s m args c prog_1_method_9_code 3 cn_R) (hr : meth.sig.returnType = (some .int)) (hlk : meth.locks = false) : ra_At X p l e rm_R_set s m args below meth c 3 (MQ below (ra_Qc X Z) args s 0 0 (ra_A X)) (b_R_set_28 c0 c1 c2 Z) 28 :=
  r_iload_n F d_R_set_28 rfl <| r_iconst F d_R_set_29 (by decide) <| r_icmp_ne F d_R_set_30 (by decide) (o_R_set_56 h0 h1 h2 F hr hlk) (o_R_set_33 h0 h1 h2 F hr hlk)
theorem o_R_set_27 {X : ra_X} {p : Program} {l : Launch} {e : Env} {s : State} {m : MethodId} {args : Array Value} {below : List Frame} {meth : Method} {c : Code} {Z : ra_R} {c0 c1 c2 : ra_Sp}  (h0 : ra_MOK l X mi_R_isOutside c0) (h1 : ra_MOK l X mi_Wt_changePrice c1) (h2 : ra_MOK l X mi_Wt_changeWear c2) (F : ra_Fx X p rm_R_set s m args c prog_1_method_9_code 3 cn_R) (hr : meth.sig.returnType = (some .int)) (hlk : meth.locks = false) : ra_At X p l e rm_R_set s m args below meth c 3 (MQ below (ra_Qc X Z) args s 0 0 (ra_A X)) (b_R_set_27 c0 c1 c2 Z) 27 :=
  r_ireturn F hr hlk d_R_set_27
theorem o_R_set_19 {X : ra_X} {p : Program} {l : Launch} {e : Env} {s : State} {m : MethodId} {args : Array Value} {below : List Frame} {meth : Method} {c : Code} {Z : ra_R} {c0 c1 c2 : ra_Sp}  (h0 : ra_MOK l X mi_R_isOutside c0) (h1 : ra_MOK l X mi_Wt_changePrice c1) (h2 : ra_MOK l X mi_Wt_changeWear c2) (F : ra_Fx X p rm_R_set s m args c prog_1_method_9_code 3 cn_R) (hr : meth.sig.returnType = (some .int)) (hlk : meth.locks = false) : ra_At X p l e rm_R_set s m args below meth c 3 (MQ below (ra_Qc X Z) args s 0 0 (ra_A X)) (b_R_set_19 c0 c1 c2 Z) 19 :=
  r_aload_n F d_R_set_19 rfl <| r_getR F cg_R (j := 1) (by decide) rfl fl_R_19 d_R_set_20 <| r_iload_n F d_R_set_23 rfl <| r_callV F h1 (co_Wt_changePrice (by decide +kernel) (by decide +kernel)) ⟨rfl, by decide +kernel⟩ ⟨rfl, by decide⟩ ml_R_139 im_Wt_changePrice se_Wt_changePrice d_R_set_24 <| (o_R_set_27 h0 h1 h2 F hr hlk)
theorem o_R_set_14 {X : ra_X} {p : Program} {l : Launch} {e : Env} {s : State} {m : MethodId} {args : Array Value} {below : List Frame} {meth : Method} {c : Code} {Z : ra_R} {c0 c1 c2 : ra_Sp}  (h0 : ra_MOK l X mi_R_isOutside c0) (h1 : ra_MOK l X mi_Wt_changePrice c1) (h2 : ra_MOK l X mi_Wt_changeWear c2) (F : ra_Fx X p rm_R_set s m args c prog_1_method_9_code 3 cn_R) (hr : meth.sig.returnType = (some .int)) (hlk : meth.locks = false) : ra_At X p l e rm_R_set s m args below meth c 3 (MQ below (ra_Qc X Z) args s 0 0 (ra_A X)) (b_R_set_14 c0 c1 c2 Z) 14 :=
  r_bipush F d_R_set_14 (by decide) <| r_goto F d_R_set_16 (by decide) (o_R_set_27 h0 h1 h2 F hr hlk)
theorem o_R_set_4 {X : ra_X} {p : Program} {l : Launch} {e : Env} {s : State} {m : MethodId} {args : Array Value} {below : List Frame} {meth : Method} {c : Code} {Z : ra_R} {c0 c1 c2 : ra_Sp}  (h0 : ra_MOK l X mi_R_isOutside c0) (h1 : ra_MOK l X mi_Wt_changePrice c1) (h2 : ra_MOK l X mi_Wt_changeWear c2) (F : ra_Fx X p rm_R_set s m args c prog_1_method_9_code 3 cn_R) (hr : meth.sig.returnType = (some .int)) (hlk : meth.locks = false) : ra_At X p l e rm_R_set s m args below meth c 3 (MQ below (ra_Qc X Z) args s 0 0 (ra_A X)) (b_R_set_4 c0 c1 c2 Z) 4 :=
  r_iload_n F d_R_set_4 rfl <| r_iconst F d_R_set_5 (by decide) <| r_bipush F d_R_set_6 (by decide) <| r_callS F h0 (co_R_isOutside (by decide +kernel) (by decide +kernel)) ⟨rfl, by decide +kernel⟩ ml_R_73 st_R_isOutside d_R_set_8 <| r_if_eq F d_R_set_11 (by decide) (o_R_set_19 h0 h1 h2 F hr hlk) (o_R_set_14 h0 h1 h2 F hr hlk)
theorem o_R_set_0 {X : ra_X} {p : Program} {l : Launch} {e : Env} {s : State} {m : MethodId} {args : Array Value} {below : List Frame} {meth : Method} {c : Code} {Z : ra_R} {c0 c1 c2 : ra_Sp}  (h0 : ra_MOK l X mi_R_isOutside c0) (h1 : ra_MOK l X mi_Wt_changePrice c1) (h2 : ra_MOK l X mi_Wt_changeWear c2) (F : ra_Fx X p rm_R_set s m args c prog_1_method_9_code 3 cn_R) (hr : meth.sig.returnType = (some .int)) (hlk : meth.locks = false) : ra_At X p l e rm_R_set s m args below meth c 3 (MQ below (ra_Qc X Z) args s 0 0 (ra_A X)) (b_R_set_0 c0 c1 c2 Z) 0 :=
  r_iload_n F d_R_set_0 rfl <| r_if_ne F d_R_set_1 (by decide) (o_R_set_28 h0 h1 h2 F hr hlk) (o_R_set_4 h0 h1 h2 F hr hlk)
theorem g_R_set {l : Launch} {X : ra_X} {c0 c1 c2 : ra_Sp}  (h0 : ra_MOK l X mi_R_isOutside c0) (h1 : ra_MOK l X mi_Wt_changePrice c1) (h2 : ra_MOK l X mi_Wt_changeWear c2) (sp : ra_Sp) (ve : ∀ as σ Z, ra_c1 as = true → as.length = 3 → sp as σ Z → b_R_set_0 c0 c1 c2 Z (ra_pad 3 as) [] σ) : ra_MOK l X mi_R_set sp := by
  refine ra_enter (k := fun Z as σ => b_R_set_0 c0 c1 c2 Z) cn_R rfl (by decide +kernel) ⟨by decide +kernel, by decide +kernel⟩ (by decide +kernel) ?_ ve
  intro p e s m args below meth c Z as σ hsp F hr hlk
  exact o_R_set_0 h0 h1 h2 F hr hlk

theorem d_Co_choose_0 : decode prog_2_method_2_code 0 = .ok (.aload_n 0, 1) := by decide +kernel
theorem d_Co_choose_1 : decode prog_2_method_2_code 1 = .ok (.iconst 0, 1) := by decide +kernel
theorem d_Co_choose_2 : decode prog_2_method_2_code 2 = .ok (.putfield 41, 3) := by decide +kernel
theorem d_Co_choose_5 : decode prog_2_method_2_code 5 = .ok (.iconst 0, 1) := by decide +kernel
theorem d_Co_choose_6 : decode prog_2_method_2_code 6 = .ok (.istore_n 2, 1) := by decide +kernel
theorem d_Co_choose_7 : decode prog_2_method_2_code 7 = .ok (.iload_n 2, 1) := by decide +kernel
theorem d_Co_choose_8 : decode prog_2_method_2_code 8 = .ok (.aload_n 0, 1) := by decide +kernel
theorem d_Co_choose_9 : decode prog_2_method_2_code 9 = .ok (.getfield 33, 3) := by decide +kernel
theorem d_Co_choose_12 : decode prog_2_method_2_code 12 = .ok (.getfield 45, 3) := by decide +kernel
theorem d_Co_choose_15 : decode prog_2_method_2_code 15 = .ok (.if_icmp .ge 52, 3) := by decide +kernel
theorem d_Co_choose_18 : decode prog_2_method_2_code 18 = .ok (.iload_n 1, 1) := by decide +kernel
theorem d_Co_choose_19 : decode prog_2_method_2_code 19 = .ok (.iload_n 2, 1) := by decide +kernel
theorem d_Co_choose_20 : decode prog_2_method_2_code 20 = .ok (.invokestatic 50, 3) := by decide +kernel
theorem d_Co_choose_23 : decode prog_2_method_2_code 23 = .ok (.ifCond .eq 38, 3) := by decide +kernel
theorem d_Co_choose_26 : decode prog_2_method_2_code 26 = .ok (.aload_n 0, 1) := by decide +kernel
theorem d_Co_choose_27 : decode prog_2_method_2_code 27 = .ok (.getfield 9, 3) := by decide +kernel
theorem d_Co_choose_30 : decode prog_2_method_2_code 30 = .ok (.aload_n 0, 1) := by decide +kernel
theorem d_Co_choose_31 : decode prog_2_method_2_code 31 = .ok (.getfield 41, 3) := by decide +kernel
theorem d_Co_choose_34 : decode prog_2_method_2_code 34 = .ok (.iload_n 2, 1) := by decide +kernel
theorem d_Co_choose_35 : decode prog_2_method_2_code 35 = .ok (.iastore, 1) := by decide +kernel
theorem d_Co_choose_36 : decode prog_2_method_2_code 36 = .ok (.aload_n 0, 1) := by decide +kernel
theorem d_Co_choose_37 : decode prog_2_method_2_code 37 = .ok (.dup, 1) := by decide +kernel
theorem d_Co_choose_38 : decode prog_2_method_2_code 38 = .ok (.getfield 41, 3) := by decide +kernel
theorem d_Co_choose_41 : decode prog_2_method_2_code 41 = .ok (.iconst 1, 1) := by decide +kernel
theorem d_Co_choose_42 : decode prog_2_method_2_code 42 = .ok (.iadd, 1) := by decide +kernel
theorem d_Co_choose_43 : decode prog_2_method_2_code 43 = .ok (.putfield 41, 3) := by decide +kernel
theorem d_Co_choose_46 : decode prog_2_method_2_code 46 = .ok (.aload_n 0, 1) := by decide +kernel
theorem d_Co_choose_47 : decode prog_2_method_2_code 47 = .ok (.getfield 15, 3) := by decide +kernel
theorem d_Co_choose_50 : decode prog_2_method_2_code 50 = .ok (.iload_n 2, 1) := by decide +kernel
theorem d_Co_choose_51 : decode prog_2_method_2_code 51 = .ok (.aload_n 0, 1) := by decide +kernel
theorem d_Co_choose_52 : decode prog_2_method_2_code 52 = .ok (.getfield 33, 3) := by decide +kernel
theorem d_Co_choose_55 : decode prog_2_method_2_code 55 = .ok (.getfield 54, 3) := by decide +kernel
theorem d_Co_choose_58 : decode prog_2_method_2_code 58 = .ok (.iload_n 2, 1) := by decide +kernel
theorem d_Co_choose_59 : decode prog_2_method_2_code 59 = .ok (.iaload, 1) := by decide +kernel
theorem d_Co_choose_60 : decode prog_2_method_2_code 60 = .ok (.iastore, 1) := by decide +kernel
theorem d_Co_choose_61 : decode prog_2_method_2_code 61 = .ok (.iinc 2 1, 3) := by decide +kernel
theorem d_Co_choose_64 : decode prog_2_method_2_code 64 = .ok (.goto (-57), 3) := by decide +kernel
theorem d_Co_choose_67 : decode prog_2_method_2_code 67 = .ok (.return_, 1) := by decide +kernel
def b_Co_choose_67 (c0 : ra_Sp) (I : Nat → ra_K) (Z : ra_R) : ra_K := w_vr Z
def b_Co_choose_61 (c0 : ra_Sp) (I : Nat → ra_K) (Z : ra_R) : ra_K := w_inc 2 1 <| (I 7)
def b_Co_choose_26 (c0 : ra_Sp) (I : Nat → ra_K) (Z : ra_R) : ra_K := w_al 0 <| w_gr 4 2 <| w_al 0 <| w_gi 4 9 <| w_il 2 <| w_ast <| w_al 0 <| w_dup <| w_gi 4 9 <| w_c 1 <| w_i2 (fun x y => x + y) <| w_pi 4 9 <| w_al 0 <| w_gr 4 3 <| w_il 2 <| w_al 0 <| w_gr 4 0 <| w_gr 1 4 <| w_il 2 <| w_ald <| w_ast <| (b_Co_choose_61 c0 I Z)
def b_Co_choose_18 (c0 : ra_Sp) (I : Nat → ra_K) (Z : ra_R) : ra_K := w_il 1 <| w_il 2 <| w_cs c0 2 <| w_b1 (fun x => x = 0) (b_Co_choose_61 c0 I Z) (b_Co_choose_26 c0 I Z)
def b_Co_choose_7 (c0 : ra_Sp) (I : Nat → ra_K) (Z : ra_R) : ra_K := w_il 2 <| w_al 0 <| w_gr 4 0 <| w_gi 1 8 <| w_b2 (fun x y => y ≤ x) (b_Co_choose_67 c0 I Z) (b_Co_choose_18 c0 I Z)
def b_Co_choose_0 (c0 : ra_Sp) (I : Nat → ra_K) (Z : ra_R) : ra_K := w_al 0 <| w_c 0 <| w_pi 4 9 <| w_c 0 <| w_is 2 <| (I 7)
theorem o_Co_choose_67 {X : ra_X} {p : Program} {l : Launch} {e : Env} {s : State} {m : MethodId} {args : Array Value} {below : List Frame} {meth : Method} {c : Code} {Z : ra_R} {c0 : ra_Sp}  (h0 : ra_MOK l X mi_R_has c0) (F : ra_Fx X p rm_Co_choose s m args c prog_2_method_2_code 3 cn_Co) (hr : meth.sig.returnType = none) (hlk : meth.locks = false) {I : Nat → ra_K} (hI : ∀ t ∈ [7], ra_At X p l e rm_Co_choose s m args below meth c 3 (MQ below (ra_Qc X Z) args s 0 0 (ra_A X)) (I t) t) : ra_At X p l e rm_Co_choose s m args below meth c 3 (MQ below (ra_Qc X Z) args s 0 0 (ra_A X)) (b_Co_choose_67 c0 I Z) 67 :=
  r_return F hr hlk d_Co_choose_67
theorem o_Co_choose_61 {X : ra_X} {p : Program} {l : Launch} {e : Env} {s : State} {m : MethodId} {args : Array Value} {below : List Frame} {meth : Method} {c : Code} {Z : ra_R} {c0 : ra_Sp}  (h0 : ra_MOK l X mi_R_has c0) (F : ra_Fx X p rm_Co_choose s m args c prog_2_method_2_code 3 cn_Co) (hr : meth.sig.returnType = none) (hlk : meth.locks = false) {I : Nat → ra_K} (hI : ∀ t ∈ [7], ra_At X p l e rm_Co_choose s m args below meth c 3 (MQ below (ra_Qc X Z) args s 0 0 (ra_A X)) (I t) t) : ra_At X p l e rm_Co_choose s m args below meth c 3 (MQ below (ra_Qc X Z) args s 0 0 (ra_A X)) (b_Co_choose_61 c0 I Z) 61 :=
  r_iinc F d_Co_choose_61 (by decide) (by decide) <| r_goto F d_Co_choose_64 (by decide) (hI 7 (by decide))
theorem o_Co_choose_26 {X : ra_X} {p : Program} {l : Launch} {e : Env} {s : State} {m : MethodId} {args : Array Value} {below : List Frame} {meth : Method} {c : Code} {Z : ra_R} {c0 : ra_Sp}  (h0 : ra_MOK l X mi_R_has c0) (F : ra_Fx X p rm_Co_choose s m args c prog_2_method_2_code 3 cn_Co) (hr : meth.sig.returnType = none) (hlk : meth.locks = false) {I : Nat → ra_K} (hI : ∀ t ∈ [7], ra_At X p l e rm_Co_choose s m args below meth c 3 (MQ below (ra_Qc X Z) args s 0 0 (ra_A X)) (I t) t) : ra_At X p l e rm_Co_choose s m args below meth c 3 (MQ below (ra_Qc X Z) args s 0 0 (ra_A X)) (b_Co_choose_26 c0 I Z) 26 :=
  r_aload_n F d_Co_choose_26 rfl <| r_getR F cg_Co (j := 2) (by decide) rfl fl_Co_9 d_Co_choose_27 <| r_aload_n F d_Co_choose_30 rfl <| r_getI F cg_Co (j := 9) (by decide) rfl fl_Co_41 d_Co_choose_31 <| r_iload_n F d_Co_choose_34 rfl <| r_iastore F d_Co_choose_35 <| r_aload_n F d_Co_choose_36 rfl <| r_dup F d_Co_choose_37 <| r_getI F cg_Co (j := 9) (by decide) rfl fl_Co_41 d_Co_choose_38 <| r_iconst F d_Co_choose_41 (by decide) <| r_iadd F d_Co_choose_42 <| r_putI F cg_Co (j := 9) (by decide) rfl rfl rfl fl_Co_41 d_Co_choose_43 <| r_aload_n F d_Co_choose_46 rfl <| r_getR F cg_Co (j := 3) (by decide) rfl fl_Co_15 d_Co_choose_47 <| r_iload_n F d_Co_choose_50 rfl <| r_aload_n F d_Co_choose_51 rfl <| r_getR F cg_Co (j := 0) (by decide) rfl fl_Co_33 d_Co_choose_52 <| r_getR F cg_V (j := 4) (by decide) rfl fl_Co_54 d_Co_choose_55 <| r_iload_n F d_Co_choose_58 rfl <| r_iaload F d_Co_choose_59 <| r_iastore F d_Co_choose_60 <| (o_Co_choose_61 h0 F hr hlk hI)
theorem o_Co_choose_18 {X : ra_X} {p : Program} {l : Launch} {e : Env} {s : State} {m : MethodId} {args : Array Value} {below : List Frame} {meth : Method} {c : Code} {Z : ra_R} {c0 : ra_Sp}  (h0 : ra_MOK l X mi_R_has c0) (F : ra_Fx X p rm_Co_choose s m args c prog_2_method_2_code 3 cn_Co) (hr : meth.sig.returnType = none) (hlk : meth.locks = false) {I : Nat → ra_K} (hI : ∀ t ∈ [7], ra_At X p l e rm_Co_choose s m args below meth c 3 (MQ below (ra_Qc X Z) args s 0 0 (ra_A X)) (I t) t) : ra_At X p l e rm_Co_choose s m args below meth c 3 (MQ below (ra_Qc X Z) args s 0 0 (ra_A X)) (b_Co_choose_18 c0 I Z) 18 :=
  r_iload_n F d_Co_choose_18 rfl <| r_iload_n F d_Co_choose_19 rfl <| r_callSN F h0 (co_R_has (by decide +kernel) (by decide +kernel)) ⟨rfl, by decide +kernel⟩ (host := "RoofAcross") (by decide +kernel) st_R_has d_Co_choose_20 <| r_if_eq F d_Co_choose_23 (by decide) (o_Co_choose_61 h0 F hr hlk hI) (o_Co_choose_26 h0 F hr hlk hI)
theorem o_Co_choose_7 {X : ra_X} {p : Program} {l : Launch} {e : Env} {s : State} {m : MethodId} {args : Array Value} {below : List Frame} {meth : Method} {c : Code} {Z : ra_R} {c0 : ra_Sp}  (h0 : ra_MOK l X mi_R_has c0) (F : ra_Fx X p rm_Co_choose s m args c prog_2_method_2_code 3 cn_Co) (hr : meth.sig.returnType = none) (hlk : meth.locks = false) {I : Nat → ra_K} (hI : ∀ t ∈ [7], ra_At X p l e rm_Co_choose s m args below meth c 3 (MQ below (ra_Qc X Z) args s 0 0 (ra_A X)) (I t) t) : ra_At X p l e rm_Co_choose s m args below meth c 3 (MQ below (ra_Qc X Z) args s 0 0 (ra_A X)) (b_Co_choose_7 c0 I Z) 7 :=
  r_iload_n F d_Co_choose_7 rfl <| r_aload_n F d_Co_choose_8 rfl <| r_getR F cg_Co (j := 0) (by decide) rfl fl_Co_33 d_Co_choose_9 <| r_getI F cg_V (j := 8) (by decide) rfl fl_Co_45 d_Co_choose_12 <| r_icmp_ge F d_Co_choose_15 (by decide) (o_Co_choose_67 h0 F hr hlk hI) (o_Co_choose_18 h0 F hr hlk hI)
theorem o_Co_choose_0 {X : ra_X} {p : Program} {l : Launch} {e : Env} {s : State} {m : MethodId} {args : Array Value} {below : List Frame} {meth : Method} {c : Code} {Z : ra_R} {c0 : ra_Sp}  (h0 : ra_MOK l X mi_R_has c0) (F : ra_Fx X p rm_Co_choose s m args c prog_2_method_2_code 3 cn_Co) (hr : meth.sig.returnType = none) (hlk : meth.locks = false) {I : Nat → ra_K} (hI : ∀ t ∈ [7], ra_At X p l e rm_Co_choose s m args below meth c 3 (MQ below (ra_Qc X Z) args s 0 0 (ra_A X)) (I t) t) : ra_At X p l e rm_Co_choose s m args below meth c 3 (MQ below (ra_Qc X Z) args s 0 0 (ra_A X)) (b_Co_choose_0 c0 I Z) 0 :=
  r_aload_n F d_Co_choose_0 rfl <| r_iconst F d_Co_choose_1 (by decide) <| r_putI F cg_Co (j := 9) (by decide) rfl rfl rfl fl_Co_41 d_Co_choose_2 <| r_iconst F d_Co_choose_5 (by decide) <| r_istore_n F d_Co_choose_6 rfl (by decide) <| (hI 7 (by decide))
theorem g_Co_choose {l : Launch} {X : ra_X} {c0 : ra_Sp}  (h0 : ra_MOK l X mi_R_has c0) (sp : ra_Sp) (I : ra_R → List Value → ra_St → Nat → ra_M → ra_K) (ve : ∀ as σ Z, ra_c1 as = true → as.length = 2 → sp as σ Z → b_Co_choose_0 c0 (ra_I (I Z as σ)) Z (ra_pad 3 as) [] σ) (v7 : ∀ as σ Z, sp as σ Z → ∀ μ L S σ1, I Z as σ 7 μ L S σ1 → b_Co_choose_7 c0 (ra_J (I Z as σ) μ) Z L S σ1) : ra_MOK l X mi_Co_choose sp := by
  refine ra_enter (k := fun Z as σ => b_Co_choose_0 c0 (ra_I (I Z as σ)) Z) cn_Co rfl (by decide +kernel) ⟨by decide +kernel, by decide +kernel⟩ (by decide +kernel) ?_ ve
  intro p e s m args below meth c Z as σ hsp F hr hlk
  refine o_Co_choose_0 h0 F hr hlk (ra_cuts (b := fun t J => if t = 7 then b_Co_choose_7 c0 J Z else fun _ _ _ => False) ?_ ?_)
  · intro t ht J hJ
    simp only [List.mem_cons, List.not_mem_nil, or_false] at ht
    rcases ht with rfl
    · exact o_Co_choose_7 h0 F hr hlk hJ
  · intro t ht μ L S σ1 hI
    simp only [List.mem_cons, List.not_mem_nil, or_false] at ht
    rcases ht with rfl
    · exact v7 as σ Z hsp μ L S σ1 hI

theorem d_Co_begin_0 : decode prog_2_method_3_code 0 = .ok (.aload_n 0, 1) := by decide +kernel
theorem d_Co_begin_1 : decode prog_2_method_3_code 1 = .ok (.iconst 0, 1) := by decide +kernel
theorem d_Co_begin_2 : decode prog_2_method_3_code 2 = .ok (.putfield 55, 3) := by decide +kernel
theorem d_Co_begin_5 : decode prog_2_method_3_code 5 = .ok (.iconst 0, 1) := by decide +kernel
theorem d_Co_begin_6 : decode prog_2_method_3_code 6 = .ok (.istore_n 1, 1) := by decide +kernel
theorem d_Co_begin_7 : decode prog_2_method_3_code 7 = .ok (.iload_n 1, 1) := by decide +kernel
theorem d_Co_begin_8 : decode prog_2_method_3_code 8 = .ok (.aload_n 0, 1) := by decide +kernel
theorem d_Co_begin_9 : decode prog_2_method_3_code 9 = .ok (.getfield 41, 3) := by decide +kernel
theorem d_Co_begin_12 : decode prog_2_method_3_code 12 = .ok (.if_icmp .ge 60, 3) := by decide +kernel
theorem d_Co_begin_15 : decode prog_2_method_3_code 15 = .ok (.aload_n 0, 1) := by decide +kernel
theorem d_Co_begin_16 : decode prog_2_method_3_code 16 = .ok (.getfield 9, 3) := by decide +kernel
theorem d_Co_begin_19 : decode prog_2_method_3_code 19 = .ok (.iload_n 1, 1) := by decide +kernel
theorem d_Co_begin_20 : decode prog_2_method_3_code 20 = .ok (.iaload, 1) := by decide +kernel
theorem d_Co_begin_21 : decode prog_2_method_3_code 21 = .ok (.istore_n 2, 1) := by decide +kernel
theorem d_Co_begin_22 : decode prog_2_method_3_code 22 = .ok (.aload_n 0, 1) := by decide +kernel
theorem d_Co_begin_23 : decode prog_2_method_3_code 23 = .ok (.getfield 18, 3) := by decide +kernel
theorem d_Co_begin_26 : decode prog_2_method_3_code 26 = .ok (.iload_n 2, 1) := by decide +kernel
theorem d_Co_begin_27 : decode prog_2_method_3_code 27 = .ok (.aload_n 0, 1) := by decide +kernel
theorem d_Co_begin_28 : decode prog_2_method_3_code 28 = .ok (.getfield 33, 3) := by decide +kernel
theorem d_Co_begin_31 : decode prog_2_method_3_code 31 = .ok (.getfield 58, 3) := by decide +kernel
theorem d_Co_begin_34 : decode prog_2_method_3_code 34 = .ok (.iload_n 2, 1) := by decide +kernel
theorem d_Co_begin_35 : decode prog_2_method_3_code 35 = .ok (.iaload, 1) := by decide +kernel
theorem d_Co_begin_36 : decode prog_2_method_3_code 36 = .ok (.iastore, 1) := by decide +kernel
theorem d_Co_begin_37 : decode prog_2_method_3_code 37 = .ok (.aload_n 0, 1) := by decide +kernel
theorem d_Co_begin_38 : decode prog_2_method_3_code 38 = .ok (.getfield 21, 3) := by decide +kernel
theorem d_Co_begin_41 : decode prog_2_method_3_code 41 = .ok (.iload_n 2, 1) := by decide +kernel
theorem d_Co_begin_42 : decode prog_2_method_3_code 42 = .ok (.aload_n 0, 1) := by decide +kernel
theorem d_Co_begin_43 : decode prog_2_method_3_code 43 = .ok (.getfield 33, 3) := by decide +kernel
theorem d_Co_begin_46 : decode prog_2_method_3_code 46 = .ok (.getfield 59, 3) := by decide +kernel
theorem d_Co_begin_49 : decode prog_2_method_3_code 49 = .ok (.iload_n 2, 1) := by decide +kernel
theorem d_Co_begin_50 : decode prog_2_method_3_code 50 = .ok (.iaload, 1) := by decide +kernel
theorem d_Co_begin_51 : decode prog_2_method_3_code 51 = .ok (.iastore, 1) := by decide +kernel
theorem d_Co_begin_52 : decode prog_2_method_3_code 52 = .ok (.aload_n 0, 1) := by decide +kernel
theorem d_Co_begin_53 : decode prog_2_method_3_code 53 = .ok (.getfield 24, 3) := by decide +kernel
theorem d_Co_begin_56 : decode prog_2_method_3_code 56 = .ok (.iload_n 2, 1) := by decide +kernel
theorem d_Co_begin_57 : decode prog_2_method_3_code 57 = .ok (.iconst 0, 1) := by decide +kernel
theorem d_Co_begin_58 : decode prog_2_method_3_code 58 = .ok (.iastore, 1) := by decide +kernel
theorem d_Co_begin_59 : decode prog_2_method_3_code 59 = .ok (.aload_n 0, 1) := by decide +kernel
theorem d_Co_begin_60 : decode prog_2_method_3_code 60 = .ok (.getfield 27, 3) := by decide +kernel
theorem d_Co_begin_63 : decode prog_2_method_3_code 63 = .ok (.iload_n 2, 1) := by decide +kernel
theorem d_Co_begin_64 : decode prog_2_method_3_code 64 = .ok (.iconst 0, 1) := by decide +kernel
theorem d_Co_begin_65 : decode prog_2_method_3_code 65 = .ok (.iastore, 1) := by decide +kernel
theorem d_Co_begin_66 : decode prog_2_method_3_code 66 = .ok (.iinc 1 1, 3) := by decide +kernel
theorem d_Co_begin_69 : decode prog_2_method_3_code 69 = .ok (.goto (-62), 3) := by decide +kernel
theorem d_Co_begin_72 : decode prog_2_method_3_code 72 = .ok (.return_, 1) := by decide +kernel
def b_Co_begin_72 (I : Nat → ra_K) (Z : ra_R) : ra_K := w_vr Z
def b_Co_begin_15 (I : Nat → ra_K) (Z : ra_R) : ra_K := w_al 0 <| w_gr 4 2 <| w_il 1 <| w_ald <| w_is 2 <| w_al 0 <| w_gr 4 4 <| w_il 2 <| w_al 0 <| w_gr 4 0 <| w_gr 1 2 <| w_il 2 <| w_ald <| w_ast <| w_al 0 <| w_gr 4 5 <| w_il 2 <| w_al 0 <| w_gr 4 0 <| w_gr 1 3 <| w_il 2 <| w_ald <| w_ast <| w_al 0 <| w_gr 4 6 <| w_il 2 <| w_c 0 <| w_ast <| w_al 0 <| w_gr 4 7 <| w_il 2 <| w_c 0 <| w_ast <| w_inc 1 1 <| (I 7)
def b_Co_begin_7 (I : Nat → ra_K) (Z : ra_R) : ra_K := w_il 1 <| w_al 0 <| w_gi 4 9 <| w_b2 (fun x y => y ≤ x) (b_Co_begin_72 I Z) (b_Co_begin_15 I Z)
def b_Co_begin_0 (I : Nat → ra_K) (Z : ra_R) : ra_K := w_al 0 <| w_c 0 <| w_pi 4 10 <| w_c 0 <| w_is 1 <| (I 7)
theorem o_Co_begin_72 {X : ra_X} {p : Program} {l : Launch} {e : Env} {s : State} {m : MethodId} {args : Array Value} {below : List Frame} {meth : Method} {c : Code} {Z : ra_R}  (F : ra_Fx X p rm_Co_begin s m args c prog_2_method_3_code 3 cn_Co) (hr : meth.sig.returnType = none) (hlk : meth.locks = false) {I : Nat → ra_K} (hI : ∀ t ∈ [7], ra_At X p l e rm_Co_begin s m args below meth c 3 (MQ below (ra_Qc X Z) args s 0 0 (ra_A X)) (I t) t) : ra_At X p l e rm_Co_begin s m args below meth c 3 (MQ below (ra_Qc X Z) args s 0 0 (ra_A X)) (b_Co_begin_72 I Z) 72 :=
  r_return F hr hlk d_Co_begin_72
theorem o_Co_begin_15 {X : ra_X} {p : Program} {l : Launch} {e : Env} {s : State} {m : MethodId} {args : Array Value} {below : List Frame} {meth : Method} {c : Code} {Z : ra_R}  (F : ra_Fx X p rm_Co_begin s m args c prog_2_method_3_code 3 cn_Co) (hr : meth.sig.returnType = none) (hlk : meth.locks = false) {I : Nat → ra_K} (hI : ∀ t ∈ [7], ra_At X p l e rm_Co_begin s m args below meth c 3 (MQ below (ra_Qc X Z) args s 0 0 (ra_A X)) (I t) t) : ra_At X p l e rm_Co_begin s m args below meth c 3 (MQ below (ra_Qc X Z) args s 0 0 (ra_A X)) (b_Co_begin_15 I Z) 15 :=
  r_aload_n F d_Co_begin_15 rfl <| r_getR F cg_Co (j := 2) (by decide) rfl fl_Co_9 d_Co_begin_16 <| r_iload_n F d_Co_begin_19 rfl <| r_iaload F d_Co_begin_20 <| r_istore_n F d_Co_begin_21 rfl (by decide) <| r_aload_n F d_Co_begin_22 rfl <| r_getR F cg_Co (j := 4) (by decide) rfl fl_Co_18 d_Co_begin_23 <| r_iload_n F d_Co_begin_26 rfl <| r_aload_n F d_Co_begin_27 rfl <| r_getR F cg_Co (j := 0) (by decide) rfl fl_Co_33 d_Co_begin_28 <| r_getR F cg_V (j := 2) (by decide) rfl fl_Co_58 d_Co_begin_31 <| r_iload_n F d_Co_begin_34 rfl <| r_iaload F d_Co_begin_35 <| r_iastore F d_Co_begin_36 <| r_aload_n F d_Co_begin_37 rfl <| r_getR F cg_Co (j := 5) (by decide) rfl fl_Co_21 d_Co_begin_38 <| r_iload_n F d_Co_begin_41 rfl <| r_aload_n F d_Co_begin_42 rfl <| r_getR F cg_Co (j := 0) (by decide) rfl fl_Co_33 d_Co_begin_43 <| r_getR F cg_V (j := 3) (by decide) rfl fl_Co_59 d_Co_begin_46 <| r_iload_n F d_Co_begin_49 rfl <| r_iaload F d_Co_begin_50 <| r_iastore F d_Co_begin_51 <| r_aload_n F d_Co_begin_52 rfl <| r_getR F cg_Co (j := 6) (by decide) rfl fl_Co_24 d_Co_begin_53 <| r_iload_n F d_Co_begin_56 rfl <| r_iconst F d_Co_begin_57 (by decide) <| r_iastore F d_Co_begin_58 <| r_aload_n F d_Co_begin_59 rfl <| r_getR F cg_Co (j := 7) (by decide) rfl fl_Co_27 d_Co_begin_60 <| r_iload_n F d_Co_begin_63 rfl <| r_iconst F d_Co_begin_64 (by decide) <| r_iastore F d_Co_begin_65 <| r_iinc F d_Co_begin_66 (by decide) (by decide) <| r_goto F d_Co_begin_69 (by decide) (hI 7 (by decide))
theorem o_Co_begin_7 {X : ra_X} {p : Program} {l : Launch} {e : Env} {s : State} {m : MethodId} {args : Array Value} {below : List Frame} {meth : Method} {c : Code} {Z : ra_R}  (F : ra_Fx X p rm_Co_begin s m args c prog_2_method_3_code 3 cn_Co) (hr : meth.sig.returnType = none) (hlk : meth.locks = false) {I : Nat → ra_K} (hI : ∀ t ∈ [7], ra_At X p l e rm_Co_begin s m args below meth c 3 (MQ below (ra_Qc X Z) args s 0 0 (ra_A X)) (I t) t) : ra_At X p l e rm_Co_begin s m args below meth c 3 (MQ below (ra_Qc X Z) args s 0 0 (ra_A X)) (b_Co_begin_7 I Z) 7 :=
  r_iload_n F d_Co_begin_7 rfl <| r_aload_n F d_Co_begin_8 rfl <| r_getI F cg_Co (j := 9) (by decide) rfl fl_Co_41 d_Co_begin_9 <| r_icmp_ge F d_Co_begin_12 (by decide) (o_Co_begin_72 F hr hlk hI) (o_Co_begin_15 F hr hlk hI)
theorem o_Co_begin_0 {X : ra_X} {p : Program} {l : Launch} {e : Env} {s : State} {m : MethodId} {args : Array Value} {below : List Frame} {meth : Method} {c : Code} {Z : ra_R}  (F : ra_Fx X p rm_Co_begin s m args c prog_2_method_3_code 3 cn_Co) (hr : meth.sig.returnType = none) (hlk : meth.locks = false) {I : Nat → ra_K} (hI : ∀ t ∈ [7], ra_At X p l e rm_Co_begin s m args below meth c 3 (MQ below (ra_Qc X Z) args s 0 0 (ra_A X)) (I t) t) : ra_At X p l e rm_Co_begin s m args below meth c 3 (MQ below (ra_Qc X Z) args s 0 0 (ra_A X)) (b_Co_begin_0 I Z) 0 :=
  r_aload_n F d_Co_begin_0 rfl <| r_iconst F d_Co_begin_1 (by decide) <| r_putI F cg_Co (j := 10) (by decide) rfl rfl rfl fl_Co_55 d_Co_begin_2 <| r_iconst F d_Co_begin_5 (by decide) <| r_istore_n F d_Co_begin_6 rfl (by decide) <| (hI 7 (by decide))
theorem g_Co_begin {l : Launch} {X : ra_X}  (sp : ra_Sp) (I : ra_R → List Value → ra_St → Nat → ra_M → ra_K) (ve : ∀ as σ Z, ra_c1 as = true → as.length = 1 → sp as σ Z → b_Co_begin_0 (ra_I (I Z as σ)) Z (ra_pad 3 as) [] σ) (v7 : ∀ as σ Z, sp as σ Z → ∀ μ L S σ1, I Z as σ 7 μ L S σ1 → b_Co_begin_7 (ra_J (I Z as σ) μ) Z L S σ1) : ra_MOK l X mi_Co_begin sp := by
  refine ra_enter (k := fun Z as σ => b_Co_begin_0 (ra_I (I Z as σ)) Z) cn_Co rfl (by decide +kernel) ⟨by decide +kernel, by decide +kernel⟩ (by decide +kernel) ?_ ve
  intro p e s m args below meth c Z as σ hsp F hr hlk
  refine o_Co_begin_0 F hr hlk (ra_cuts (b := fun t J => if t = 7 then b_Co_begin_7 J Z else fun _ _ _ => False) ?_ ?_)
  · intro t ht J hJ
    simp only [List.mem_cons, List.not_mem_nil, or_false] at ht
    rcases ht with rfl
    · exact o_Co_begin_7 F hr hlk hJ
  · intro t ht μ L S σ1 hI
    simp only [List.mem_cons, List.not_mem_nil, or_false] at ht
    rcases ht with rfl
    · exact v7 as σ Z hsp μ L S σ1 hI
