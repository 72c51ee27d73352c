theorem d_So_note_0 : decode prog_8_method_4_code 0 = .ok (.iconst 0, 1) := by decide +kernel
theorem d_So_note_1 : decode prog_8_method_4_code 1 = .ok (.istore_n 2, 1) := by decide +kernel
theorem d_So_note_2 : decode prog_8_method_4_code 2 = .ok (.iload_n 2, 1) := by decide +kernel
theorem d_So_note_3 : decode prog_8_method_4_code 3 = .ok (.aload_n 0, 1) := by decide +kernel
theorem d_So_note_4 : decode prog_8_method_4_code 4 = .ok (.getfield 20, 3) := by decide +kernel
theorem d_So_note_7 : decode prog_8_method_4_code 7 = .ok (.getfield 68, 3) := by decide +kernel
theorem d_So_note_10 : decode prog_8_method_4_code 10 = .ok (.if_icmp .ge 84, 3) := by decide +kernel
theorem d_So_note_13 : decode prog_8_method_4_code 13 = .ok (.iload_n 1, 1) := by decide +kernel
theorem d_So_note_14 : decode prog_8_method_4_code 14 = .ok (.bipush 8, 2) := by decide +kernel
theorem d_So_note_16 : decode prog_8_method_4_code 16 = .ok (.imul, 1) := by decide +kernel
theorem d_So_note_17 : decode prog_8_method_4_code 17 = .ok (.iload_n 2, 1) := by decide +kernel
theorem d_So_note_18 : decode prog_8_method_4_code 18 = .ok (.iadd, 1) := by decide +kernel
theorem d_So_note_19 : decode prog_8_method_4_code 19 = .ok (.istore_n 3, 1) := by decide +kernel
theorem d_So_note_20 : decode prog_8_method_4_code 20 = .ok (.aload_n 0, 1) := by decide +kernel
theorem d_So_note_21 : decode prog_8_method_4_code 21 = .ok (.getfield 11, 3) := by decide +kernel
theorem d_So_note_24 : decode prog_8_method_4_code 24 = .ok (.iconst 0, 1) := by decide +kernel
theorem d_So_note_25 : decode prog_8_method_4_code 25 = .ok (.aaload, 1) := by decide +kernel
theorem d_So_note_26 : decode prog_8_method_4_code 26 = .ok (.iload_n 3, 1) := by decide +kernel
theorem d_So_note_27 : decode prog_8_method_4_code 27 = .ok (.aload_n 0, 1) := by decide +kernel
theorem d_So_note_28 : decode prog_8_method_4_code 28 = .ok (.getfield 33, 3) := by decide +kernel
theorem d_So_note_31 : decode prog_8_method_4_code 31 = .ok (.getfield 69, 3) := by decide +kernel
theorem d_So_note_34 : decode prog_8_method_4_code 34 = .ok (.iload_n 2, 1) := by decide +kernel
theorem d_So_note_35 : decode prog_8_method_4_code 35 = .ok (.iaload, 1) := by decide +kernel
theorem d_So_note_36 : decode prog_8_method_4_code 36 = .ok (.iastore, 1) := by decide +kernel
theorem d_So_note_37 : decode prog_8_method_4_code 37 = .ok (.aload_n 0, 1) := by decide +kernel
theorem d_So_note_38 : decode prog_8_method_4_code 38 = .ok (.getfield 11, 3) := by decide +kernel
theorem d_So_note_41 : decode prog_8_method_4_code 41 = .ok (.iconst 1, 1) := by decide +kernel
theorem d_So_note_42 : decode prog_8_method_4_code 42 = .ok (.aaload, 1) := by decide +kernel
theorem d_So_note_43 : decode prog_8_method_4_code 43 = .ok (.iload_n 3, 1) := by decide +kernel
theorem d_So_note_44 : decode prog_8_method_4_code 44 = .ok (.aload_n 0, 1) := by decide +kernel
theorem d_So_note_45 : decode prog_8_method_4_code 45 = .ok (.getfield 33, 3) := by decide +kernel
theorem d_So_note_48 : decode prog_8_method_4_code 48 = .ok (.getfield 72, 3) := by decide +kernel
theorem d_So_note_51 : decode prog_8_method_4_code 51 = .ok (.iload_n 2, 1) := by decide +kernel
theorem d_So_note_52 : decode prog_8_method_4_code 52 = .ok (.iaload, 1) := by decide +kernel
theorem d_So_note_53 : decode prog_8_method_4_code 53 = .ok (.iastore, 1) := by decide +kernel
theorem d_So_note_54 : decode prog_8_method_4_code 54 = .ok (.aload_n 0, 1) := by decide +kernel
theorem d_So_note_55 : decode prog_8_method_4_code 55 = .ok (.getfield 11, 3) := by decide +kernel
theorem d_So_note_58 : decode prog_8_method_4_code 58 = .ok (.iconst 2, 1) := by decide +kernel
theorem d_So_note_59 : decode prog_8_method_4_code 59 = .ok (.aaload, 1) := by decide +kernel
theorem d_So_note_60 : decode prog_8_method_4_code 60 = .ok (.iload_n 3, 1) := by decide +kernel
theorem d_So_note_61 : decode prog_8_method_4_code 61 = .ok (.aload_n 0, 1) := by decide +kernel
theorem d_So_note_62 : decode prog_8_method_4_code 62 = .ok (.getfield 33, 3) := by decide +kernel
theorem d_So_note_65 : decode prog_8_method_4_code 65 = .ok (.getfield 75, 3) := by decide +kernel
theorem d_So_note_68 : decode prog_8_method_4_code 68 = .ok (.iload_n 2, 1) := by decide +kernel
theorem d_So_note_69 : decode prog_8_method_4_code 69 = .ok (.iaload, 1) := by decide +kernel
theorem d_So_note_70 : decode prog_8_method_4_code 70 = .ok (.iastore, 1) := by decide +kernel
theorem d_So_note_71 : decode prog_8_method_4_code 71 = .ok (.aload_n 0, 1) := by decide +kernel
theorem d_So_note_72 : decode prog_8_method_4_code 72 = .ok (.getfield 11, 3) := by decide +kernel
theorem d_So_note_75 : decode prog_8_method_4_code 75 = .ok (.iconst 3, 1) := by decide +kernel
theorem d_So_note_76 : decode prog_8_method_4_code 76 = .ok (.aaload, 1) := by decide +kernel
theorem d_So_note_77 : decode prog_8_method_4_code 77 = .ok (.iload_n 3, 1) := by decide +kernel
theorem d_So_note_78 : decode prog_8_method_4_code 78 = .ok (.aload_n 0, 1) := by decide +kernel
theorem d_So_note_79 : decode prog_8_method_4_code 79 = .ok (.getfield 33, 3) := by decide +kernel
theorem d_So_note_82 : decode prog_8_method_4_code 82 = .ok (.getfield 78, 3) := by decide +kernel
theorem d_So_note_85 : decode prog_8_method_4_code 85 = .ok (.iload_n 2, 1) := by decide +kernel
theorem d_So_note_86 : decode prog_8_method_4_code 86 = .ok (.iaload, 1) := by decide +kernel
theorem d_So_note_87 : decode prog_8_method_4_code 87 = .ok (.iastore, 1) := by decide +kernel
theorem d_So_note_88 : decode prog_8_method_4_code 88 = .ok (.iinc 2 1, 3) := by decide +kernel
theorem d_So_note_91 : decode prog_8_method_4_code 91 = .ok (.goto (-89), 3) := by decide +kernel
theorem d_So_note_94 : decode prog_8_method_4_code 94 = .ok (.return_, 1) := by decide +kernel
def b_So_note_94 (I : Nat → ra_K) (Z : ra_R) : ra_K := w_vr Z
def b_So_note_13 (I : Nat → ra_K) (Z : ra_R) : ra_K := w_il 1 <| w_c 8 <| w_i2 (fun x y => x * y) <| w_il 2 <| w_i2 (fun x y => x + y) <| w_is 3 <| w_al 0 <| w_gr 5 3 <| w_c 0 <| w_rld 2 <| w_il 3 <| w_al 0 <| w_gr 5 2 <| w_gr 4 4 <| w_il 2 <| w_ald <| w_ast <| w_al 0 <| w_gr 5 3 <| w_c 1 <| w_rld 2 <| w_il 3 <| w_al 0 <| w_gr 5 2 <| w_gr 4 5 <| w_il 2 <| w_ald <| w_ast <| w_al 0 <| w_gr 5 3 <| w_c 2 <| w_rld 2 <| w_il 3 <| w_al 0 <| w_gr 5 2 <| w_gr 4 6 <| w_il 2 <| w_ald <| w_ast <| w_al 0 <| w_gr 5 3 <| w_c 3 <| w_rld 2 <| w_il 3 <| w_al 0 <| w_gr 5 2 <| w_gr 4 7 <| w_il 2 <| w_ald <| w_ast <| w_inc 2 1 <| (I 2)
def b_So_note_2 (I : Nat → ra_K) (Z : ra_R) : ra_K := w_il 2 <| w_al 0 <| w_gr 5 0 <| w_gi 1 8 <| w_b2 (fun x y => y ≤ x) (b_So_note_94 I Z) (b_So_note_13 I Z)
def b_So_note_0 (I : Nat → ra_K) (Z : ra_R) : ra_K := w_c 0 <| w_is 2 <| (I 2)
theorem o_So_note_94 {X : ra_X} {p : Program} {l : Launch} {e : Env} {s : State} {m : MethodId} {args : Array Value} {below : List Frame} {meth : Method} {c : Code} {Z : ra_R}  (F : ra_Fx X p rm_So_note s m args c prog_8_method_4_code 4 cn_So) (hr : meth.sig.returnType = none) (hlk : meth.locks = false) {I : Nat → ra_K} (hI : ∀ t ∈ [2], ra_At X p l e rm_So_note s m args below meth c 4 (MQ below (ra_Qc X Z) args s 0 0 (ra_A X)) (I t) t) : ra_At X p l e rm_So_note s m args below meth c 4 (MQ below (ra_Qc X Z) args s 0 0 (ra_A X)) (b_So_note_94 I Z) 94 :=
  r_return F hr hlk d_So_note_94
theorem o_So_note_13 {X : ra_X} {p : Program} {l : Launch} {e : Env} {s : State} {m : MethodId} {args : Array Value} {below : List Frame} {meth : Method} {c : Code} {Z : ra_R}  (F : ra_Fx X p rm_So_note s m args c prog_8_method_4_code 4 cn_So) (hr : meth.sig.returnType = none) (hlk : meth.locks = false) {I : Nat → ra_K} (hI : ∀ t ∈ [2], ra_At X p l e rm_So_note s m args below meth c 4 (MQ below (ra_Qc X Z) args s 0 0 (ra_A X)) (I t) t) : ra_At X p l e rm_So_note s m args below meth c 4 (MQ below (ra_Qc X Z) args s 0 0 (ra_A X)) (b_So_note_13 I Z) 13 :=
  r_iload_n F d_So_note_13 rfl <| r_bipush F d_So_note_14 (by decide) <| r_imul F d_So_note_16 <| r_iload_n F d_So_note_17 rfl <| r_iadd F d_So_note_18 <| r_istore_n F d_So_note_19 rfl (by decide) <| r_aload_n F d_So_note_20 rfl <| r_getR F cg_So (j := 3) (by decide) rfl fl_So_11 d_So_note_21 <| r_iconst F d_So_note_24 (by decide) <| r_aaloadI F d_So_note_25 <| r_iload_n F d_So_note_26 rfl <| r_aload_n F d_So_note_27 rfl <| r_getR F cg_So (j := 2) (by decide) rfl fl_So_33 d_So_note_28 <| r_getR F cg_Co (j := 4) (by decide) rfl fl_So_69 d_So_note_31 <| r_iload_n F d_So_note_34 rfl <| r_iaload F d_So_note_35 <| r_iastore F d_So_note_36 <| r_aload_n F d_So_note_37 rfl <| r_getR F cg_So (j := 3) (by decide) rfl fl_So_11 d_So_note_38 <| r_iconst F d_So_note_41 (by decide) <| r_aaloadI F d_So_note_42 <| r_iload_n F d_So_note_43 rfl <| r_aload_n F d_So_note_44 rfl <| r_getR F cg_So (j := 2) (by decide) rfl fl_So_33 d_So_note_45 <| r_getR F cg_Co (j := 5) (by decide) rfl fl_So_72 d_So_note_48 <| r_iload_n F d_So_note_51 rfl <| r_iaload F d_So_note_52 <| r_iastore F d_So_note_53 <| r_aload_n F d_So_note_54 rfl <| r_getR F cg_So (j := 3) (by decide) rfl fl_So_11 d_So_note_55 <| r_iconst F d_So_note_58 (by decide) <| r_aaloadI F d_So_note_59 <| r_iload_n F d_So_note_60 rfl <| r_aload_n F d_So_note_61 rfl <| r_getR F cg_So (j := 2) (by decide) rfl fl_So_33 d_So_note_62 <| r_getR F cg_Co (j := 6) (by decide) rfl fl_So_75 d_So_note_65 <| r_iload_n F d_So_note_68 rfl <| r_iaload F d_So_note_69 <| r_iastore F d_So_note_70 <| r_aload_n F d_So_note_71 rfl <| r_getR F cg_So (j := 3) (by decide) rfl fl_So_11 d_So_note_72 <| r_iconst F d_So_note_75 (by decide) <| r_aaloadI F d_So_note_76 <| r_iload_n F d_So_note_77 rfl <| r_aload_n F d_So_note_78 rfl <| r_getR F cg_So (j := 2) (by decide) rfl fl_So_33 d_So_note_79 <| r_getR F cg_Co (j := 7) (by decide) rfl fl_So_78 d_So_note_82 <| r_iload_n F d_So_note_85 rfl <| r_iaload F d_So_note_86 <| r_iastore F d_So_note_87 <| r_iinc F d_So_note_88 (by decide) (by decide) <| r_goto F d_So_note_91 (by decide) (hI 2 (by decide))
theorem o_So_note_2 {X : ra_X} {p : Program} {l : Launch} {e : Env} {s : State} {m : MethodId} {args : Array Value} {below : List Frame} {meth : Method} {c : Code} {Z : ra_R}  (F : ra_Fx X p rm_So_note s m args c prog_8_method_4_code 4 cn_So) (hr : meth.sig.returnType = none) (hlk : meth.locks = false) {I : Nat → ra_K} (hI : ∀ t ∈ [2], ra_At X p l e rm_So_note s m args below meth c 4 (MQ below (ra_Qc X Z) args s 0 0 (ra_A X)) (I t) t) : ra_At X p l e rm_So_note s m args below meth c 4 (MQ below (ra_Qc X Z) args s 0 0 (ra_A X)) (b_So_note_2 I Z) 2 :=
  r_iload_n F d_So_note_2 rfl <| r_aload_n F d_So_note_3 rfl <| r_getR F cg_So (j := 0) (by decide) rfl fl_So_20 d_So_note_4 <| r_getI F cg_V (j := 8) (by decide) rfl fl_So_68 d_So_note_7 <| r_icmp_ge F d_So_note_10 (by decide) (o_So_note_94 F hr hlk hI) (o_So_note_13 F hr hlk hI)
theorem o_So_note_0 {X : ra_X} {p : Program} {l : Launch} {e : Env} {s : State} {m : MethodId} {args : Array Value} {below : List Frame} {meth : Method} {c : Code} {Z : ra_R}  (F : ra_Fx X p rm_So_note s m args c prog_8_method_4_code 4 cn_So) (hr : meth.sig.returnType = none) (hlk : meth.locks = false) {I : Nat → ra_K} (hI : ∀ t ∈ [2], ra_At X p l e rm_So_note s m args below meth c 4 (MQ below (ra_Qc X Z) args s 0 0 (ra_A X)) (I t) t) : ra_At X p l e rm_So_note s m args below meth c 4 (MQ below (ra_Qc X Z) args s 0 0 (ra_A X)) (b_So_note_0 I Z) 0 :=
  r_iconst F d_So_note_0 (by decide) <| r_istore_n F d_So_note_1 rfl (by decide) <| (hI 2 (by decide))
theorem g_So_note {l : Launch} {X : ra_X}  (sp : ra_Sp) (I : ra_R → List Value → ra_St → Nat → ra_M → ra_K) (ve : ∀ as σ Z, ra_c1 as = true → as.length = 2 → sp as σ Z → b_So_note_0 (ra_I (I Z as σ)) Z (ra_pad 4 as) [] σ) (v2 : ∀ as σ Z, sp as σ Z → ∀ μ L S σ1, I Z as σ 2 μ L S σ1 → b_So_note_2 (ra_J (I Z as σ) μ) Z L S σ1) : ra_MOK l X mi_So_note sp := by
  refine ra_enter (k := fun Z as σ => b_So_note_0 (ra_I (I Z as σ)) Z) cn_So rfl (by decide +kernel) ⟨by decide +kernel, by decide +kernel⟩ (by decide +kernel) ?_ ve
  intro p e s m args below meth c Z as σ hsp F hr hlk
  refine o_So_note_0 F hr hlk (ra_cuts (b := fun t J => if t = 2 then b_So_note_2 J Z else fun _ _ _ => False) ?_ ?_)
  · intro t ht J hJ
    simp only [List.mem_cons, List.not_mem_nil, or_false] at ht
    rcases ht with rfl
    · exact o_So_note_2 F hr hlk hJ
  · intro t ht μ L S σ1 hI
    simp only [List.mem_cons, List.not_mem_nil, or_false] at ht
    rcases ht with rfl
    · exact v2 as σ Z hsp μ L S σ1 hI

theorem d_Co_isLaidOn_0 : decode prog_2_method_5_code 0 = .ok (.aload_n 0, 1) := by decide +kernel
theorem d_Co_isLaidOn_1 : decode prog_2_method_5_code 1 = .ok (.getfield 33, 3) := by decide +kernel
theorem d_Co_isLaidOn_4 : decode prog_2_method_5_code 4 = .ok (.getfield 66, 3) := by decide +kernel
theorem d_Co_isLaidOn_7 : decode prog_2_method_5_code 7 = .ok (.iload_n 1, 1) := by decide +kernel
theorem d_Co_isLaidOn_8 : decode prog_2_method_5_code 8 = .ok (.iaload, 1) := by decide +kernel
theorem d_Co_isLaidOn_9 : decode prog_2_method_5_code 9 = .ok (.istore_n 3, 1) := by decide +kernel
theorem d_Co_isLaidOn_10 : decode prog_2_method_5_code 10 = .ok (.aload_n 0, 1) := by decide +kernel
theorem d_Co_isLaidOn_11 : decode prog_2_method_5_code 11 = .ok (.getfield 21, 3) := by decide +kernel
theorem d_Co_isLaidOn_14 : decode prog_2_method_5_code 14 = .ok (.iload_n 3, 1) := by decide +kernel
theorem d_Co_isLaidOn_15 : decode prog_2_method_5_code 15 = .ok (.iaload, 1) := by decide +kernel
theorem d_Co_isLaidOn_16 : decode prog_2_method_5_code 16 = .ok (.aload_n 0, 1) := by decide +kernel
theorem d_Co_isLaidOn_17 : decode prog_2_method_5_code 17 = .ok (.getfield 37, 3) := by decide +kernel
theorem d_Co_isLaidOn_20 : decode prog_2_method_5_code 20 = .ok (.getfield 77, 3) := by decide +kernel
theorem d_Co_isLaidOn_23 : decode prog_2_method_5_code 23 = .ok (.if_icmp .lt 14, 3) := by decide +kernel
theorem d_Co_isLaidOn_26 : decode prog_2_method_5_code 26 = .ok (.aload_n 0, 1) := by decide +kernel
theorem d_Co_isLaidOn_27 : decode prog_2_method_5_code 27 = .ok (.getfield 18, 3) := by decide +kernel
theorem d_Co_isLaidOn_30 : decode prog_2_method_5_code 30 = .ok (.iload_n 1, 1) := by decide +kernel
theorem d_Co_isLaidOn_31 : decode prog_2_method_5_code 31 = .ok (.iaload, 1) := by decide +kernel
theorem d_Co_isLaidOn_32 : decode prog_2_method_5_code 32 = .ok (.bipush 9, 2) := by decide +kernel
theorem d_Co_isLaidOn_34 : decode prog_2_method_5_code 34 = .ok (.if_icmp .lt 5, 3) := by decide +kernel
theorem d_Co_isLaidOn_37 : decode prog_2_method_5_code 37 = .ok (.iconst 0, 1) := by decide +kernel
theorem d_Co_isLaidOn_38 : decode prog_2_method_5_code 38 = .ok (.ireturn, 1) := by decide +kernel
theorem d_Co_isLaidOn_39 : decode prog_2_method_5_code 39 = .ok (.aload_n 0, 1) := by decide +kernel
theorem d_Co_isLaidOn_40 : decode prog_2_method_5_code 40 = .ok (.getfield 15, 3) := by decide +kernel
theorem d_Co_isLaidOn_43 : decode prog_2_method_5_code 43 = .ok (.iload_n 3, 1) := by decide +kernel
theorem d_Co_isLaidOn_44 : decode prog_2_method_5_code 44 = .ok (.iaload, 1) := by decide +kernel
theorem d_Co_isLaidOn_45 : decode prog_2_method_5_code 45 = .ok (.tableswitch 64 0 2 #[27, 29, 48], 27) := by decide +kernel
theorem d_Co_isLaidOn_72 : decode prog_2_method_5_code 72 = .ok (.iconst 1, 1) := by decide +kernel
theorem d_Co_isLaidOn_73 : decode prog_2_method_5_code 73 = .ok (.ireturn, 1) := by decide +kernel
theorem d_Co_isLaidOn_74 : decode prog_2_method_5_code 74 = .ok (.aload_n 0, 1) := by decide +kernel
theorem d_Co_isLaidOn_75 : decode prog_2_method_5_code 75 = .ok (.getfield 30, 3) := by decide +kernel
theorem d_Co_isLaidOn_78 : decode prog_2_method_5_code 78 = .ok (.iload_n 3, 1) := by decide +kernel
theorem d_Co_isLaidOn_79 : decode prog_2_method_5_code 79 = .ok (.iaload, 1) := by decide +kernel
theorem d_Co_isLaidOn_80 : decode prog_2_method_5_code 80 = .ok (.ifCond .eq 7, 3) := by decide +kernel
theorem d_Co_isLaidOn_83 : decode prog_2_method_5_code 83 = .ok (.iload_n 2, 1) := by decide +kernel
theorem d_Co_isLaidOn_84 : decode prog_2_method_5_code 84 = .ok (.ifCond .eq 7, 3) := by decide +kernel
theorem d_Co_isLaidOn_87 : decode prog_2_method_5_code 87 = .ok (.iconst 1, 1) := by decide +kernel
theorem d_Co_isLaidOn_88 : decode prog_2_method_5_code 88 = .ok (.goto 4, 3) := by decide +kernel
theorem d_Co_isLaidOn_91 : decode prog_2_method_5_code 91 = .ok (.iconst 0, 1) := by decide +kernel
theorem d_Co_isLaidOn_92 : decode prog_2_method_5_code 92 = .ok (.ireturn, 1) := by decide +kernel
theorem d_Co_isLaidOn_93 : decode prog_2_method_5_code 93 = .ok (.aload_n 0, 1) := by decide +kernel
theorem d_Co_isLaidOn_94 : decode prog_2_method_5_code 94 = .ok (.getfield 30, 3) := by decide +kernel
theorem d_Co_isLaidOn_97 : decode prog_2_method_5_code 97 = .ok (.iload_n 1, 1) := by decide +kernel
theorem d_Co_isLaidOn_98 : decode prog_2_method_5_code 98 = .ok (.iaload, 1) := by decide +kernel
theorem d_Co_isLaidOn_99 : decode prog_2_method_5_code 99 = .ok (.iconst 3, 1) := by decide +kernel
theorem d_Co_isLaidOn_100 : decode prog_2_method_5_code 100 = .ok (.if_icmp .lt 7, 3) := by decide +kernel
theorem d_Co_isLaidOn_103 : decode prog_2_method_5_code 103 = .ok (.iconst 1, 1) := by decide +kernel
theorem d_Co_isLaidOn_104 : decode prog_2_method_5_code 104 = .ok (.goto 4, 3) := by decide +kernel
theorem d_Co_isLaidOn_107 : decode prog_2_method_5_code 107 = .ok (.iconst 0, 1) := by decide +kernel
theorem d_Co_isLaidOn_108 : decode prog_2_method_5_code 108 = .ok (.ireturn, 1) := by decide +kernel
theorem d_Co_isLaidOn_109 : decode prog_2_method_5_code 109 = .ok (.iconst 0, 1) := by decide +kernel
theorem d_Co_isLaidOn_110 : decode prog_2_method_5_code 110 = .ok (.ireturn, 1) := by decide +kernel
def b_Co_isLaidOn_109 (Z : ra_R) : ra_K := w_c 0 <| w_zr Z
def b_Co_isLaidOn_108 (Z : ra_R) : ra_K := w_zr Z
def b_Co_isLaidOn_107 (Z : ra_R) : ra_K := w_c 0 <| (b_Co_isLaidOn_108 Z)
def b_Co_isLaidOn_103 (Z : ra_R) : ra_K := w_c 1 <| (b_Co_isLaidOn_108 Z)
def b_Co_isLaidOn_93 (Z : ra_R) : ra_K := w_al 0 <| w_gr 4 8 <| w_il 1 <| w_ald <| w_c 3 <| w_b2 (fun x y => x < y) (b_Co_isLaidOn_107 Z) (b_Co_isLaidOn_103 Z)
def b_Co_isLaidOn_92 (Z : ra_R) : ra_K := w_zr Z
def b_Co_isLaidOn_91 (Z : ra_R) : ra_K := w_c 0 <| (b_Co_isLaidOn_92 Z)
def b_Co_isLaidOn_87 (Z : ra_R) : ra_K := w_c 1 <| (b_Co_isLaidOn_92 Z)
def b_Co_isLaidOn_83 (Z : ra_R) : ra_K := w_il 2 <| w_b1 (fun x => x = 0) (b_Co_isLaidOn_91 Z) (b_Co_isLaidOn_87 Z)
def b_Co_isLaidOn_74 (Z : ra_R) : ra_K := w_al 0 <| w_gr 4 8 <| w_il 3 <| w_ald <| w_b1 (fun x => x = 0) (b_Co_isLaidOn_87 Z) (b_Co_isLaidOn_83 Z)
def b_Co_isLaidOn_72 (Z : ra_R) : ra_K := w_c 1 <| w_zr Z
def b_Co_isLaidOn_39 (Z : ra_R) : ra_K := w_al 0 <| w_gr 4 3 <| w_il 3 <| w_ald <| w_sw [(0, (b_Co_isLaidOn_72 Z)), (1, (b_Co_isLaidOn_74 Z)), (2, (b_Co_isLaidOn_93 Z))] (b_Co_isLaidOn_109 Z)
def b_Co_isLaidOn_37 (Z : ra_R) : ra_K := w_c 0 <| w_zr Z
def b_Co_isLaidOn_26 (Z : ra_R) : ra_K := w_al 0 <| w_gr 4 4 <| w_il 1 <| w_ald <| w_c 9 <| w_b2 (fun x y => x < y) (b_Co_isLaidOn_39 Z) (b_Co_isLaidOn_37 Z)
def b_Co_isLaidOn_0 (Z : ra_R) : ra_K := w_al 0 <| w_gr 4 0 <| w_gr 1 6 <| w_il 1 <| w_ald <| w_is 3 <| w_al 0 <| w_gr 4 5 <| w_il 3 <| w_ald <| w_al 0 <| w_gr 4 1 <| w_gi 3 2 <| w_b2 (fun x y => x < y) (b_Co_isLaidOn_37 Z) (b_Co_isLaidOn_26 Z)
theorem o_Co_isLaidOn_109 {X : ra_X} {p : Program} {l : Launch} {e : Env} {s : State} {m : MethodId} {args : Array Value} {below : List Frame} {meth : Method} {c : Code} {Z : ra_R}  (F : ra_Fx X p rm_Co_isLaidOn s m args c prog_2_method_5_code 4 cn_Co) (hr : meth.sig.returnType = (some .boolean)) (hlk : meth.locks = false) : ra_At X p l e rm_Co_isLaidOn s m args below meth c 4 (MQ below (ra_Qc X Z) args s 0 0 (ra_A X)) (b_Co_isLaidOn_109 Z) 109 :=
  r_iconst F d_Co_isLaidOn_109 (by decide) <| r_zreturn F hr hlk d_Co_isLaidOn_110
theorem o_Co_isLaidOn_108 {X : ra_X} {p : Program} {l : Launch} {e : Env} {s : State} {m : MethodId} {args : Array Value} {below : List Frame} {meth : Method} {c : Code} {Z : ra_R}  (F : ra_Fx X p rm_Co_isLaidOn s m args c prog_2_method_5_code 4 cn_Co) (hr : meth.sig.returnType = (some .boolean)) (hlk : meth.locks = false) : ra_At X p l e rm_Co_isLaidOn s m args below meth c 4 (MQ below (ra_Qc X Z) args s 0 0 (ra_A X)) (b_Co_isLaidOn_108 Z) 108 :=
  r_zreturn F hr hlk d_Co_isLaidOn_108
theorem o_Co_isLaidOn_107 {X : ra_X} {p : Program} {l : Launch} {e : Env} {s : State} {m : MethodId} {args : Array Value} {below : List Frame} {meth : Method} {c : Code} {Z : ra_R}  (F : ra_Fx X p rm_Co_isLaidOn s m args c prog_2_method_5_code 4 cn_Co) (hr : meth.sig.returnType = (some .boolean)) (hlk : meth.locks = false) : ra_At X p l e rm_Co_isLaidOn s m args below meth c 4 (MQ below (ra_Qc X Z) args s 0 0 (ra_A X)) (b_Co_isLaidOn_107 Z) 107 :=
  r_iconst F d_Co_isLaidOn_107 (by decide) <| (o_Co_isLaidOn_108 F hr hlk)
theorem o_Co_isLaidOn_103 {X : ra_X} {p : Program} {l : Launch} {e : Env} {s : State} {m : MethodId} {args : Array Value} {below : List Frame} {meth : Method} {c : Code} {Z : ra_R}  (F : ra_Fx X p rm_Co_isLaidOn s m args c prog_2_method_5_code 4 cn_Co) (hr : meth.sig.returnType = (some .boolean)) (hlk : meth.locks = false) : ra_At X p l e rm_Co_isLaidOn s m args below meth c 4 (MQ below (ra_Qc X Z) args s 0 0 (ra_A X)) (b_Co_isLaidOn_103 Z) 103 :=
  r_iconst F d_Co_isLaidOn_103 (by decide) <| r_goto F d_Co_isLaidOn_104 (by decide) (o_Co_isLaidOn_108 F hr hlk)
theorem o_Co_isLaidOn_93 {X : ra_X} {p : Program} {l : Launch} {e : Env} {s : State} {m : MethodId} {args : Array Value} {below : List Frame} {meth : Method} {c : Code} {Z : ra_R}  (F : ra_Fx X p rm_Co_isLaidOn s m args c prog_2_method_5_code 4 cn_Co) (hr : meth.sig.returnType = (some .boolean)) (hlk : meth.locks = false) : ra_At X p l e rm_Co_isLaidOn s m args below meth c 4 (MQ below (ra_Qc X Z) args s 0 0 (ra_A X)) (b_Co_isLaidOn_93 Z) 93 :=
  r_aload_n F d_Co_isLaidOn_93 rfl <| r_getR F cg_Co (j := 8) (by decide) rfl fl_Co_30 d_Co_isLaidOn_94 <| r_iload_n F d_Co_isLaidOn_97 rfl <| r_iaload F d_Co_isLaidOn_98 <| r_iconst F d_Co_isLaidOn_99 (by decide) <| r_icmp_lt F d_Co_isLaidOn_100 (by decide) (o_Co_isLaidOn_107 F hr hlk) (o_Co_isLaidOn_103 F hr hlk)
theorem o_Co_isLaidOn_92 {X : ra_X} {p : Program} {l : Launch} {e : Env} {s : State} {m : MethodId} {args : Array Value} {below : List Frame} {meth : Method} {c : Code} {Z : ra_R}  (F : ra_Fx X p rm_Co_isLaidOn s m args c prog_2_method_5_code 4 cn_Co) (hr : meth.sig.returnType = (some .boolean)) (hlk : meth.locks = false) : ra_At X p l e rm_Co_isLaidOn s m args below meth c 4 (MQ below (ra_Qc X Z) args s 0 0 (ra_A X)) (b_Co_isLaidOn_92 Z) 92 :=
  r_zreturn F hr hlk d_Co_isLaidOn_92
theorem o_Co_isLaidOn_91 {X : ra_X} {p : Program} {l : Launch} {e : Env} {s : State} {m : MethodId} {args : Array Value} {below : List Frame} {meth : Method} {c : Code} {Z : ra_R}  (F : ra_Fx X p rm_Co_isLaidOn s m args c prog_2_method_5_code 4 cn_Co) (hr : meth.sig.returnType = (some .boolean)) (hlk : meth.locks = false) : ra_At X p l e rm_Co_isLaidOn s m args below meth c 4 (MQ below (ra_Qc X Z) args s 0 0 (ra_A X)) (b_Co_isLaidOn_91 Z) 91 :=
  r_iconst F d_Co_isLaidOn_91 (by decide) <| (o_Co_isLaidOn_92 F hr hlk)
theorem o_Co_isLaidOn_87 {X : ra_X} {p : Program} {l : Launch} {e : Env} {s : State} {m : MethodId} {args : Array Value} {below : List Frame} {meth : Method} {c : Code} {Z : ra_R}  (F : ra_Fx X p rm_Co_isLaidOn s m args c prog_2_method_5_code 4 cn_Co) (hr : meth.sig.returnType = (some .boolean)) (hlk : meth.locks = false) : ra_At X p l e rm_Co_isLaidOn s m args below meth c 4 (MQ below (ra_Qc X Z) args s 0 0 (ra_A X)) (b_Co_isLaidOn_87 Z) 87 :=
  r_iconst F d_Co_isLaidOn_87 (by decide) <| r_goto F d_Co_isLaidOn_88 (by decide) (o_Co_isLaidOn_92 F hr hlk)
theorem o_Co_isLaidOn_83 {X : ra_X} {p : Program} {l : Launch} {e : Env} {s : State} {m : MethodId} {args : Array Value} {below : List Frame} {meth : Method} {c : Code} {Z : ra_R}  (F : ra_Fx X p rm_Co_isLaidOn s m args c prog_2_method_5_code 4 cn_Co) (hr : meth.sig.returnType = (some .boolean)) (hlk : meth.locks = false) : ra_At X p l e rm_Co_isLaidOn s m args below meth c 4 (MQ below (ra_Qc X Z) args s 0 0 (ra_A X)) (b_Co_isLaidOn_83 Z) 83 :=
  r_iload_n F d_Co_isLaidOn_83 rfl <| r_if_eq F d_Co_isLaidOn_84 (by decide) (o_Co_isLaidOn_91 F hr hlk) (o_Co_isLaidOn_87 F hr hlk)
theorem o_Co_isLaidOn_74 {X : ra_X} {p : Program} {l : Launch} {e : Env} {s : State} {m : MethodId} {args : Array Value} {below : List Frame} {meth : Method} {c : Code} {Z : ra_R}  (F : ra_Fx X p rm_Co_isLaidOn s m args c prog_2_method_5_code 4 cn_Co) (hr : meth.sig.returnType = (some .boolean)) (hlk : meth.locks = false) : ra_At X p l e rm_Co_isLaidOn s m args below meth c 4 (MQ below (ra_Qc X Z) args s 0 0 (ra_A X)) (b_Co_isLaidOn_74 Z) 74 :=
  r_aload_n F d_Co_isLaidOn_74 rfl <| r_getR F cg_Co (j := 8) (by decide) rfl fl_Co_30 d_Co_isLaidOn_75 <| r_iload_n F d_Co_isLaidOn_78 rfl <| r_iaload F d_Co_isLaidOn_79 <| r_if_eq F d_Co_isLaidOn_80 (by decide) (o_Co_isLaidOn_87 F hr hlk) (o_Co_isLaidOn_83 F hr hlk)
theorem o_Co_isLaidOn_72 {X : ra_X} {p : Program} {l : Launch} {e : Env} {s : State} {m : MethodId} {args : Array Value} {below : List Frame} {meth : Method} {c : Code} {Z : ra_R}  (F : ra_Fx X p rm_Co_isLaidOn s m args c prog_2_method_5_code 4 cn_Co) (hr : meth.sig.returnType = (some .boolean)) (hlk : meth.locks = false) : ra_At X p l e rm_Co_isLaidOn s m args below meth c 4 (MQ below (ra_Qc X Z) args s 0 0 (ra_A X)) (b_Co_isLaidOn_72 Z) 72 :=
  r_iconst F d_Co_isLaidOn_72 (by decide) <| r_zreturn F hr hlk d_Co_isLaidOn_73
theorem o_Co_isLaidOn_39 {X : ra_X} {p : Program} {l : Launch} {e : Env} {s : State} {m : MethodId} {args : Array Value} {below : List Frame} {meth : Method} {c : Code} {Z : ra_R}  (F : ra_Fx X p rm_Co_isLaidOn s m args c prog_2_method_5_code 4 cn_Co) (hr : meth.sig.returnType = (some .boolean)) (hlk : meth.locks = false) : ra_At X p l e rm_Co_isLaidOn s m args below meth c 4 (MQ below (ra_Qc X Z) args s 0 0 (ra_A X)) (b_Co_isLaidOn_39 Z) 39 :=
  r_aload_n F d_Co_isLaidOn_39 rfl <| r_getR F cg_Co (j := 3) (by decide) rfl fl_Co_15 d_Co_isLaidOn_40 <| r_iload_n F d_Co_isLaidOn_43 rfl <| r_iaload F d_Co_isLaidOn_44 <| r_tsw F d_Co_isLaidOn_45 (ts := [72, 74, 93]) ⟨(o_Co_isLaidOn_72 F hr hlk), (o_Co_isLaidOn_74 F hr hlk), (o_Co_isLaidOn_93 F hr hlk), trivial⟩ rfl (by decide +kernel) (by decide +kernel) (by decide +kernel) (o_Co_isLaidOn_109 F hr hlk)
theorem o_Co_isLaidOn_37 {X : ra_X} {p : Program} {l : Launch} {e : Env} {s : State} {m : MethodId} {args : Array Value} {below : List Frame} {meth : Method} {c : Code} {Z : ra_R}  (F : ra_Fx X p rm_Co_isLaidOn s m args c prog_2_method_5_code 4 cn_Co) (hr : meth.sig.returnType = (some .boolean)) (hlk : meth.locks = false) : ra_At X p l e rm_Co_isLaidOn s m args below meth c 4 (MQ below (ra_Qc X Z) args s 0 0 (ra_A X)) (b_Co_isLaidOn_37 Z) 37 :=
  r_iconst F d_Co_isLaidOn_37 (by decide) <| r_zreturn F hr hlk d_Co_isLaidOn_38
theorem o_Co_isLaidOn_26 {X : ra_X} {p : Program} {l : Launch} {e : Env} {s : State} {m : MethodId} {args : Array Value} {below : List Frame} {meth : Method} {c : Code} {Z : ra_R}  (F : ra_Fx X p rm_Co_isLaidOn s m args c prog_2_method_5_code 4 cn_Co) (hr : meth.sig.returnType = (some .boolean)) (hlk : meth.locks = false) : ra_At X p l e rm_Co_isLaidOn s m args below meth c 4 (MQ below (ra_Qc X Z) args s 0 0 (ra_A X)) (b_Co_isLaidOn_26 Z) 26 :=
  r_aload_n F d_Co_isLaidOn_26 rfl <| r_getR F cg_Co (j := 4) (by decide) rfl fl_Co_18 d_Co_isLaidOn_27 <| r_iload_n F d_Co_isLaidOn_30 rfl <| r_iaload F d_Co_isLaidOn_31 <| r_bipush F d_Co_isLaidOn_32 (by decide) <| r_icmp_lt F d_Co_isLaidOn_34 (by decide) (o_Co_isLaidOn_39 F hr hlk) (o_Co_isLaidOn_37 F hr hlk)
theorem o_Co_isLaidOn_0 {X : ra_X} {p : Program} {l : Launch} {e : Env} {s : State} {m : MethodId} {args : Array Value} {below : List Frame} {meth : Method} {c : Code} {Z : ra_R}  (F : ra_Fx X p rm_Co_isLaidOn s m args c prog_2_method_5_code 4 cn_Co) (hr : meth.sig.returnType = (some .boolean)) (hlk : meth.locks = false) : ra_At X p l e rm_Co_isLaidOn s m args below meth c 4 (MQ below (ra_Qc X Z) args s 0 0 (ra_A X)) (b_Co_isLaidOn_0 Z) 0 :=
  r_aload_n F d_Co_isLaidOn_0 rfl <| r_getR F cg_Co (j := 0) (by decide) rfl fl_Co_33 d_Co_isLaidOn_1 <| r_getR F cg_V (j := 6) (by decide) rfl fl_Co_66 d_Co_isLaidOn_4 <| r_iload_n F d_Co_isLaidOn_7 rfl <| r_iaload F d_Co_isLaidOn_8 <| r_istore_n F d_Co_isLaidOn_9 rfl (by decide) <| r_aload_n F d_Co_isLaidOn_10 rfl <| r_getR F cg_Co (j := 5) (by decide) rfl fl_Co_21 d_Co_isLaidOn_11 <| r_iload_n F d_Co_isLaidOn_14 rfl <| r_iaload F d_Co_isLaidOn_15 <| r_aload_n F d_Co_isLaidOn_16 rfl <| r_getR F cg_Co (j := 1) (by decide) rfl fl_Co_37 d_Co_isLaidOn_17 <| r_getI F cg_Wt (j := 2) (by decide) rfl fl_Co_77 d_Co_isLaidOn_20 <| r_icmp_lt F d_Co_isLaidOn_23 (by decide) (o_Co_isLaidOn_37 F hr hlk) (o_Co_isLaidOn_26 F hr hlk)
theorem g_Co_isLaidOn {l : Launch} {X : ra_X}  (sp : ra_Sp) (ve : ∀ as σ Z, ra_c1 as = true → as.length = 3 → sp as σ Z → b_Co_isLaidOn_0 Z (ra_pad 4 as) [] σ) : ra_MOK l X mi_Co_isLaidOn sp := by
  refine ra_enter (k := fun Z as σ => b_Co_isLaidOn_0 Z) cn_Co rfl (by decide +kernel) ⟨by decide +kernel, by decide +kernel⟩ (by decide +kernel) ?_ ve
  intro p e s m args below meth c Z as σ hsp F hr hlk
  exact o_Co_isLaidOn_0 F hr hlk

theorem d_Co_settle_0 : decode prog_2_method_6_code 0 = .ok (.iload_n 2, 1) := by decide +kernel
theorem d_Co_settle_1 : decode prog_2_method_6_code 1 = .ok (.ifCond .eq 50, 3) := by decide +kernel
theorem d_Co_settle_4 : decode prog_2_method_6_code 4 = .ok (.aload_n 0, 1) := by decide +kernel
theorem d_Co_settle_5 : decode prog_2_method_6_code 5 = .ok (.getfield 18, 3) := by decide +kernel
theorem d_Co_settle_8 : decode prog_2_method_6_code 8 = .ok (.iload_n 1, 1) := by decide +kernel
theorem d_Co_settle_9 : decode prog_2_method_6_code 9 = .ok (.dup2, 1) := by decide +kernel
theorem d_Co_settle_10 : decode prog_2_method_6_code 10 = .ok (.iaload, 1) := by decide +kernel
theorem d_Co_settle_11 : decode prog_2_method_6_code 11 = .ok (.iconst 1, 1) := by decide +kernel
theorem d_Co_settle_12 : decode prog_2_method_6_code 12 = .ok (.iadd, 1) := by decide +kernel
theorem d_Co_settle_13 : decode prog_2_method_6_code 13 = .ok (.iastore, 1) := by decide +kernel
theorem d_Co_settle_14 : decode prog_2_method_6_code 14 = .ok (.aload_n 0, 1) := by decide +kernel
theorem d_Co_settle_15 : decode prog_2_method_6_code 15 = .ok (.getfield 27, 3) := by decide +kernel
theorem d_Co_settle_18 : decode prog_2_method_6_code 18 = .ok (.iload_n 1, 1) := by decide +kernel
theorem d_Co_settle_19 : decode prog_2_method_6_code 19 = .ok (.dup2, 1) := by decide +kernel
theorem d_Co_settle_20 : decode prog_2_method_6_code 20 = .ok (.iaload, 1) := by decide +kernel
theorem d_Co_settle_21 : decode prog_2_method_6_code 21 = .ok (.iconst 1, 1) := by decide +kernel
theorem d_Co_settle_22 : decode prog_2_method_6_code 22 = .ok (.iadd, 1) := by decide +kernel
theorem d_Co_settle_23 : decode prog_2_method_6_code 23 = .ok (.iastore, 1) := by decide +kernel
theorem d_Co_settle_24 : decode prog_2_method_6_code 24 = .ok (.aload_n 0, 1) := by decide +kernel
theorem d_Co_settle_25 : decode prog_2_method_6_code 25 = .ok (.getfield 21, 3) := by decide +kernel
theorem d_Co_settle_28 : decode prog_2_method_6_code 28 = .ok (.aload_n 0, 1) := by decide +kernel
theorem d_Co_settle_29 : decode prog_2_method_6_code 29 = .ok (.getfield 33, 3) := by decide +kernel
theorem d_Co_settle_32 : decode prog_2_method_6_code 32 = .ok (.getfield 66, 3) := by decide +kernel
theorem d_Co_settle_35 : decode prog_2_method_6_code 35 = .ok (.iload_n 1, 1) := by decide +kernel
theorem d_Co_settle_36 : decode prog_2_method_6_code 36 = .ok (.iaload, 1) := by decide +kernel
theorem d_Co_settle_37 : decode prog_2_method_6_code 37 = .ok (.dup2, 1) := by decide +kernel
theorem d_Co_settle_38 : decode prog_2_method_6_code 38 = .ok (.iaload, 1) := by decide +kernel
theorem d_Co_settle_39 : decode prog_2_method_6_code 39 = .ok (.aload_n 0, 1) := by decide +kernel
theorem d_Co_settle_40 : decode prog_2_method_6_code 40 = .ok (.getfield 37, 3) := by decide +kernel
theorem d_Co_settle_43 : decode prog_2_method_6_code 43 = .ok (.getfield 77, 3) := by decide +kernel
theorem d_Co_settle_46 : decode prog_2_method_6_code 46 = .ok (.isub, 1) := by decide +kernel
theorem d_Co_settle_47 : decode prog_2_method_6_code 47 = .ok (.iastore, 1) := by decide +kernel
theorem d_Co_settle_48 : decode prog_2_method_6_code 48 = .ok (.goto 42, 3) := by decide +kernel
theorem d_Co_settle_51 : decode prog_2_method_6_code 51 = .ok (.aload_n 0, 1) := by decide +kernel
theorem d_Co_settle_52 : decode prog_2_method_6_code 52 = .ok (.getfield 37, 3) := by decide +kernel
theorem d_Co_settle_55 : decode prog_2_method_6_code 55 = .ok (.getfield 82, 3) := by decide +kernel
theorem d_Co_settle_58 : decode prog_2_method_6_code 58 = .ok (.iconst 1, 1) := by decide +kernel
theorem d_Co_settle_59 : decode prog_2_method_6_code 59 = .ok (.if_icmp .ne 31, 3) := by decide +kernel
theorem d_Co_settle_62 : decode prog_2_method_6_code 62 = .ok (.aload_n 0, 1) := by decide +kernel
theorem d_Co_settle_63 : decode prog_2_method_6_code 63 = .ok (.getfield 30, 3) := by decide +kernel
theorem d_Co_settle_66 : decode prog_2_method_6_code 66 = .ok (.iload_n 1, 1) := by decide +kernel
theorem d_Co_settle_67 : decode prog_2_method_6_code 67 = .ok (.iaload, 1) := by decide +kernel
theorem d_Co_settle_68 : decode prog_2_method_6_code 68 = .ok (.ifCond .le 22, 3) := by decide +kernel
theorem d_Co_settle_71 : decode prog_2_method_6_code 71 = .ok (.aload_n 0, 1) := by decide +kernel
theorem d_Co_settle_72 : decode prog_2_method_6_code 72 = .ok (.getfield 18, 3) := by decide +kernel
theorem d_Co_settle_75 : decode prog_2_method_6_code 75 = .ok (.iload_n 1, 1) := by decide +kernel
theorem d_Co_settle_76 : decode prog_2_method_6_code 76 = .ok (.iaload, 1) := by decide +kernel
theorem d_Co_settle_77 : decode prog_2_method_6_code 77 = .ok (.ifCond .le 13, 3) := by decide +kernel
theorem d_Co_settle_80 : decode prog_2_method_6_code 80 = .ok (.aload_n 0, 1) := by decide +kernel
theorem d_Co_settle_81 : decode prog_2_method_6_code 81 = .ok (.getfield 18, 3) := by decide +kernel
theorem d_Co_settle_84 : decode prog_2_method_6_code 84 = .ok (.iload_n 1, 1) := by decide +kernel
theorem d_Co_settle_85 : decode prog_2_method_6_code 85 = .ok (.dup2, 1) := by decide +kernel
theorem d_Co_settle_86 : decode prog_2_method_6_code 86 = .ok (.iaload, 1) := by decide +kernel
theorem d_Co_settle_87 : decode prog_2_method_6_code 87 = .ok (.iconst 1, 1) := by decide +kernel
theorem d_Co_settle_88 : decode prog_2_method_6_code 88 = .ok (.isub, 1) := by decide +kernel
theorem d_Co_settle_89 : decode prog_2_method_6_code 89 = .ok (.iastore, 1) := by decide +kernel
theorem d_Co_settle_90 : decode prog_2_method_6_code 90 = .ok (.return_, 1) := by decide +kernel
def b_Co_settle_90 (Z : ra_R) : ra_K := w_vr Z
def b_Co_settle_80 (Z : ra_R) : ra_K := w_al 0 <| w_gr 4 4 <| w_il 1 <| w_dup2 <| w_ald <| w_c 1 <| w_i2 (fun x y => x - y) <| w_ast <| (b_Co_settle_90 Z)
def b_Co_settle_71 (Z : ra_R) : ra_K := w_al 0 <| w_gr 4 4 <| w_il 1 <| w_ald <| w_b1 (fun x => x ≤ 0) (b_Co_settle_90 Z) (b_Co_settle_80 Z)
def b_Co_settle_62 (Z : ra_R) : ra_K := w_al 0 <| w_gr 4 8 <| w_il 1 <| w_ald <| w_b1 (fun x => x ≤ 0) (b_Co_settle_90 Z) (b_Co_settle_71 Z)
def b_Co_settle_51 (Z : ra_R) : ra_K := w_al 0 <| w_gr 4 1 <| w_gi 3 3 <| w_c 1 <| w_b2 (fun x y => x = y) (b_Co_settle_62 Z) (b_Co_settle_90 Z)
def b_Co_settle_4 (Z : ra_R) : ra_K := w_al 0 <| w_gr 4 4 <| w_il 1 <| w_dup2 <| w_ald <| w_c 1 <| w_i2 (fun x y => x + y) <| w_ast <| w_al 0 <| w_gr 4 7 <| w_il 1 <| w_dup2 <| w_ald <| w_c 1 <| w_i2 (fun x y => x + y) <| w_ast <| w_al 0 <| w_gr 4 5 <| w_al 0 <| w_gr 4 0 <| w_gr 1 6 <| w_il 1 <| w_ald <| w_dup2 <| w_ald <| w_al 0 <| w_gr 4 1 <| w_gi 3 2 <| w_i2 (fun x y => x - y) <| w_ast <| (b_Co_settle_90 Z)
def b_Co_settle_0 (Z : ra_R) : ra_K := w_il 2 <| w_b1 (fun x => x = 0) (b_Co_settle_51 Z) (b_Co_settle_4 Z)
theorem o_Co_settle_90 {X : ra_X} {p : Program} {l : Launch} {e : Env} {s : State} {m : MethodId} {args : Array Value} {below : List Frame} {meth : Method} {c : Code} {Z : ra_R}  (F : ra_Fx X p rm_Co_settle s m args c prog_2_method_6_code 3 cn_Co) (hr : meth.sig.returnType = none) (hlk : meth.locks = false) : ra_At X p l e rm_Co_settle s m args below meth c 3 (MQ below (ra_Qc X Z) args s 0 0 (ra_A X)) (b_Co_settle_90 Z) 90 :=
  r_return F hr hlk d_Co_settle_90
theorem o_Co_settle_80 {X : ra_X} {p : Program} {l : Launch} {e : Env} {s : State} {m : MethodId} {args : Array Value} {below : List Frame} {meth : Method} {c : Code} {Z : ra_R}  (F : ra_Fx X p rm_Co_settle s m args c prog_2_method_6_code 3 cn_Co) (hr : meth.sig.returnType = none) (hlk : meth.locks = false) : ra_At X p l e rm_Co_settle s m args below meth c 3 (MQ below (ra_Qc X Z) args s 0 0 (ra_A X)) (b_Co_settle_80 Z) 80 :=
  r_aload_n F d_Co_settle_80 rfl <| r_getR F cg_Co (j := 4) (by decide) rfl fl_Co_18 d_Co_settle_81 <| r_iload_n F d_Co_settle_84 rfl <| r_dup2 F d_Co_settle_85 <| r_iaload F d_Co_settle_86 <| r_iconst F d_Co_settle_87 (by decide) <| r_isub F d_Co_settle_88 <| r_iastore F d_Co_settle_89 <| (o_Co_settle_90 F hr hlk)
theorem o_Co_settle_71 {X : ra_X} {p : Program} {l : Launch} {e : Env} {s : State} {m : MethodId} {args : Array Value} {below : List Frame} {meth : Method} {c : Code} {Z : ra_R}  (F : ra_Fx X p rm_Co_settle s m args c prog_2_method_6_code 3 cn_Co) (hr : meth.sig.returnType = none) (hlk : meth.locks = false) : ra_At X p l e rm_Co_settle s m args below meth c 3 (MQ below (ra_Qc X Z) args s 0 0 (ra_A X)) (b_Co_settle_71 Z) 71 :=
  r_aload_n F d_Co_settle_71 rfl <| r_getR F cg_Co (j := 4) (by decide) rfl fl_Co_18 d_Co_settle_72 <| r_iload_n F d_Co_settle_75 rfl <| r_iaload F d_Co_settle_76 <| r_if_le F d_Co_settle_77 (by decide) (o_Co_settle_90 F hr hlk) (o_Co_settle_80 F hr hlk)
theorem o_Co_settle_62 {X : ra_X} {p : Program} {l : Launch} {e : Env} {s : State} {m : MethodId} {args : Array Value} {below : List Frame} {meth : Method} {c : Code} {Z : ra_R}  (F : ra_Fx X p rm_Co_settle s m args c prog_2_method_6_code 3 cn_Co) (hr : meth.sig.returnType = none) (hlk : meth.locks = false) : ra_At X p l e rm_Co_settle s m args below meth c 3 (MQ below (ra_Qc X Z) args s 0 0 (ra_A X)) (b_Co_settle_62 Z) 62 :=
  r_aload_n F d_Co_settle_62 rfl <| r_getR F cg_Co (j := 8) (by decide) rfl fl_Co_30 d_Co_settle_63 <| r_iload_n F d_Co_settle_66 rfl <| r_iaload F d_Co_settle_67 <| r_if_le F d_Co_settle_68 (by decide) (o_Co_settle_90 F hr hlk) (o_Co_settle_71 F hr hlk)
theorem o_Co_settle_51 {X : ra_X} {p : Program} {l : Launch} {e : Env} {s : State} {m : MethodId} {args : Array Value} {below : List Frame} {meth : Method} {c : Code} {Z : ra_R}  (F : ra_Fx X p rm_Co_settle s m args c prog_2_method_6_code 3 cn_Co) (hr : meth.sig.returnType = none) (hlk : meth.locks = false) : ra_At X p l e rm_Co_settle s m args below meth c 3 (MQ below (ra_Qc X Z) args s 0 0 (ra_A X)) (b_Co_settle_51 Z) 51 :=
  r_aload_n F d_Co_settle_51 rfl <| r_getR F cg_Co (j := 1) (by decide) rfl fl_Co_37 d_Co_settle_52 <| r_getI F cg_Wt (j := 3) (by decide) rfl fl_Co_82 d_Co_settle_55 <| r_iconst F d_Co_settle_58 (by decide) <| r_icmp_ne F d_Co_settle_59 (by decide) (o_Co_settle_90 F hr hlk) (o_Co_settle_62 F hr hlk)
theorem o_Co_settle_4 {X : ra_X} {p : Program} {l : Launch} {e : Env} {s : State} {m : MethodId} {args : Array Value} {below : List Frame} {meth : Method} {c : Code} {Z : ra_R}  (F : ra_Fx X p rm_Co_settle s m args c prog_2_method_6_code 3 cn_Co) (hr : meth.sig.returnType = none) (hlk : meth.locks = false) : ra_At X p l e rm_Co_settle s m args below meth c 3 (MQ below (ra_Qc X Z) args s 0 0 (ra_A X)) (b_Co_settle_4 Z) 4 :=
  r_aload_n F d_Co_settle_4 rfl <| r_getR F cg_Co (j := 4) (by decide) rfl fl_Co_18 d_Co_settle_5 <| r_iload_n F d_Co_settle_8 rfl <| r_dup2 F d_Co_settle_9 <| r_iaload F d_Co_settle_10 <| r_iconst F d_Co_settle_11 (by decide) <| r_iadd F d_Co_settle_12 <| r_iastore F d_Co_settle_13 <| r_aload_n F d_Co_settle_14 rfl <| r_getR F cg_Co (j := 7) (by decide) rfl fl_Co_27 d_Co_settle_15 <| r_iload_n F d_Co_settle_18 rfl <| r_dup2 F d_Co_settle_19 <| r_iaload F d_Co_settle_20 <| r_iconst F d_Co_settle_21 (by decide) <| r_iadd F d_Co_settle_22 <| r_iastore F d_Co_settle_23 <| r_aload_n F d_Co_settle_24 rfl <| r_getR F cg_Co (j := 5) (by decide) rfl fl_Co_21 d_Co_settle_25 <| r_aload_n F d_Co_settle_28 rfl <| r_getR F cg_Co (j := 0) (by decide) rfl fl_Co_33 d_Co_settle_29 <| r_getR F cg_V (j := 6) (by decide) rfl fl_Co_66 d_Co_settle_32 <| r_iload_n F d_Co_settle_35 rfl <| r_iaload F d_Co_settle_36 <| r_dup2 F d_Co_settle_37 <| r_iaload F d_Co_settle_38 <| r_aload_n F d_Co_settle_39 rfl <| r_getR F cg_Co (j := 1) (by decide) rfl fl_Co_37 d_Co_settle_40 <| r_getI F cg_Wt (j := 2) (by decide) rfl fl_Co_77 d_Co_settle_43 <| r_isub F d_Co_settle_46 <| r_iastore F d_Co_settle_47 <| r_goto F d_Co_settle_48 (by decide) (o_Co_settle_90 F hr hlk)
theorem o_Co_settle_0 {X : ra_X} {p : Program} {l : Launch} {e : Env} {s : State} {m : MethodId} {args : Array Value} {below : List Frame} {meth : Method} {c : Code} {Z : ra_R}  (F : ra_Fx X p rm_Co_settle s m args c prog_2_method_6_code 3 cn_Co) (hr : meth.sig.returnType = none) (hlk : meth.locks = false) : ra_At X p l e rm_Co_settle s m args below meth c 3 (MQ below (ra_Qc X Z) args s 0 0 (ra_A X)) (b_Co_settle_0 Z) 0 :=
  r_iload_n F d_Co_settle_0 rfl <| r_if_eq F d_Co_settle_1 (by decide) (o_Co_settle_51 F hr hlk) (o_Co_settle_4 F hr hlk)
theorem g_Co_settle {l : Launch} {X : ra_X}  (sp : ra_Sp) (ve : ∀ as σ Z, ra_c1 as = true → as.length = 3 → sp as σ Z → b_Co_settle_0 Z (ra_pad 3 as) [] σ) : ra_MOK l X mi_Co_settle sp := by
  refine ra_enter (k := fun Z as σ => b_Co_settle_0 Z) cn_Co rfl (by decide +kernel) ⟨by decide +kernel, by decide +kernel⟩ (by decide +kernel) ?_ ve
  intro p e s m args below meth c Z as σ hsp F hr hlk
  exact o_Co_settle_0 F hr hlk

theorem d_Co_pass_0 : decode prog_2_method_4_code 0 = .ok (.aload_n 0, 1) := by decide +kernel
theorem d_Co_pass_1 : decode prog_2_method_4_code 1 = .ok (.getfield 55, 3) := by decide +kernel
theorem d_Co_pass_4 : decode prog_2_method_4_code 4 = .ok (.istore_n 2, 1) := by decide +kernel
theorem d_Co_pass_5 : decode prog_2_method_4_code 5 = .ok (.aload_n 0, 1) := by decide +kernel
theorem d_Co_pass_6 : decode prog_2_method_4_code 6 = .ok (.iconst 0, 1) := by decide +kernel
theorem d_Co_pass_7 : decode prog_2_method_4_code 7 = .ok (.putfield 55, 3) := by decide +kernel
theorem d_Co_pass_10 : decode prog_2_method_4_code 10 = .ok (.iconst 0, 1) := by decide +kernel
theorem d_Co_pass_11 : decode prog_2_method_4_code 11 = .ok (.istore_n 3, 1) := by decide +kernel
theorem d_Co_pass_12 : decode prog_2_method_4_code 12 = .ok (.iload_n 3, 1) := by decide +kernel
theorem d_Co_pass_13 : decode prog_2_method_4_code 13 = .ok (.aload_n 0, 1) := by decide +kernel
theorem d_Co_pass_14 : decode prog_2_method_4_code 14 = .ok (.getfield 41, 3) := by decide +kernel
theorem d_Co_pass_17 : decode prog_2_method_4_code 17 = .ok (.if_icmp .ge 54, 3) := by decide +kernel
theorem d_Co_pass_20 : decode prog_2_method_4_code 20 = .ok (.aload_n 0, 1) := by decide +kernel
theorem d_Co_pass_21 : decode prog_2_method_4_code 21 = .ok (.getfield 9, 3) := by decide +kernel
theorem d_Co_pass_24 : decode prog_2_method_4_code 24 = .ok (.iload_n 3, 1) := by decide +kernel
theorem d_Co_pass_25 : decode prog_2_method_4_code 25 = .ok (.iaload, 1) := by decide +kernel
theorem d_Co_pass_26 : decode prog_2_method_4_code 26 = .ok (.istore 4, 2) := by decide +kernel
theorem d_Co_pass_28 : decode prog_2_method_4_code 28 = .ok (.aload_n 0, 1) := by decide +kernel
theorem d_Co_pass_29 : decode prog_2_method_4_code 29 = .ok (.getfield 30, 3) := by decide +kernel
theorem d_Co_pass_32 : decode prog_2_method_4_code 32 = .ok (.iload 4, 2) := by decide +kernel
theorem d_Co_pass_34 : decode prog_2_method_4_code 34 = .ok (.iconst 0, 1) := by decide +kernel
theorem d_Co_pass_35 : decode prog_2_method_4_code 35 = .ok (.iload_n 1, 1) := by decide +kernel
theorem d_Co_pass_36 : decode prog_2_method_4_code 36 = .ok (.aload_n 0, 1) := by decide +kernel
theorem d_Co_pass_37 : decode prog_2_method_4_code 37 = .ok (.getfield 18, 3) := by decide +kernel
theorem d_Co_pass_40 : decode prog_2_method_4_code 40 = .ok (.iload 4, 2) := by decide +kernel
theorem d_Co_pass_42 : decode prog_2_method_4_code 42 = .ok (.iaload, 1) := by decide +kernel
theorem d_Co_pass_43 : decode prog_2_method_4_code 43 = .ok (.isub, 1) := by decide +kernel
theorem d_Co_pass_44 : decode prog_2_method_4_code 44 = .ok (.invokestatic 60, 3) := by decide +kernel
theorem d_Co_pass_47 : decode prog_2_method_4_code 47 = .ok (.iastore, 1) := by decide +kernel
theorem d_Co_pass_48 : decode prog_2_method_4_code 48 = .ok (.aload_n 0, 1) := by decide +kernel
theorem d_Co_pass_49 : decode prog_2_method_4_code 49 = .ok (.getfield 24, 3) := by decide +kernel
theorem d_Co_pass_52 : decode prog_2_method_4_code 52 = .ok (.iload 4, 2) := by decide +kernel
theorem d_Co_pass_54 : decode prog_2_method_4_code 54 = .ok (.dup2, 1) := by decide +kernel
theorem d_Co_pass_55 : decode prog_2_method_4_code 55 = .ok (.iaload, 1) := by decide +kernel
theorem d_Co_pass_56 : decode prog_2_method_4_code 56 = .ok (.aload_n 0, 1) := by decide +kernel
theorem d_Co_pass_57 : decode prog_2_method_4_code 57 = .ok (.getfield 30, 3) := by decide +kernel
theorem d_Co_pass_60 : decode prog_2_method_4_code 60 = .ok (.iload 4, 2) := by decide +kernel
theorem d_Co_pass_62 : decode prog_2_method_4_code 62 = .ok (.iaload, 1) := by decide +kernel
theorem d_Co_pass_63 : decode prog_2_method_4_code 63 = .ok (.iadd, 1) := by decide +kernel
theorem d_Co_pass_64 : decode prog_2_method_4_code 64 = .ok (.iastore, 1) := by decide +kernel
theorem d_Co_pass_65 : decode prog_2_method_4_code 65 = .ok (.iinc 3 1, 3) := by decide +kernel
theorem d_Co_pass_68 : decode prog_2_method_4_code 68 = .ok (.goto (-56), 3) := by decide +kernel
theorem d_Co_pass_71 : decode prog_2_method_4_code 71 = .ok (.iconst 0, 1) := by decide +kernel
theorem d_Co_pass_72 : decode prog_2_method_4_code 72 = .ok (.istore_n 3, 1) := by decide +kernel
theorem d_Co_pass_73 : decode prog_2_method_4_code 73 = .ok (.iload_n 3, 1) := by decide +kernel
theorem d_Co_pass_74 : decode prog_2_method_4_code 74 = .ok (.aload_n 0, 1) := by decide +kernel
theorem d_Co_pass_75 : decode prog_2_method_4_code 75 = .ok (.getfield 41, 3) := by decide +kernel
theorem d_Co_pass_78 : decode prog_2_method_4_code 78 = .ok (.if_icmp .ge 67, 3) := by decide +kernel
theorem d_Co_pass_81 : decode prog_2_method_4_code 81 = .ok (.aload_n 0, 1) := by decide +kernel
theorem d_Co_pass_82 : decode prog_2_method_4_code 82 = .ok (.getfield 9, 3) := by decide +kernel
theorem d_Co_pass_85 : decode prog_2_method_4_code 85 = .ok (.iload_n 3, 1) := by decide +kernel
theorem d_Co_pass_86 : decode prog_2_method_4_code 86 = .ok (.iaload, 1) := by decide +kernel
theorem d_Co_pass_87 : decode prog_2_method_4_code 87 = .ok (.istore 4, 2) := by decide +kernel
theorem d_Co_pass_89 : decode prog_2_method_4_code 89 = .ok (.iload_n 2, 1) := by decide +kernel
theorem d_Co_pass_90 : decode prog_2_method_4_code 90 = .ok (.aload_n 0, 1) := by decide +kernel
theorem d_Co_pass_91 : decode prog_2_method_4_code 91 = .ok (.getfield 33, 3) := by decide +kernel
theorem d_Co_pass_94 : decode prog_2_method_4_code 94 = .ok (.getfield 66, 3) := by decide +kernel
theorem d_Co_pass_97 : decode prog_2_method_4_code 97 = .ok (.iload 4, 2) := by decide +kernel
theorem d_Co_pass_99 : decode prog_2_method_4_code 99 = .ok (.iaload, 1) := by decide +kernel
theorem d_Co_pass_100 : decode prog_2_method_4_code 100 = .ok (.invokestatic 50, 3) := by decide +kernel
theorem d_Co_pass_103 : decode prog_2_method_4_code 103 = .ok (.istore 5, 2) := by decide +kernel
theorem d_Co_pass_105 : decode prog_2_method_4_code 105 = .ok (.aload_n 0, 1) := by decide +kernel
theorem d_Co_pass_106 : decode prog_2_method_4_code 106 = .ok (.getfield 30, 3) := by decide +kernel
theorem d_Co_pass_109 : decode prog_2_method_4_code 109 = .ok (.iload 4, 2) := by decide +kernel
theorem d_Co_pass_111 : decode prog_2_method_4_code 111 = .ok (.iaload, 1) := by decide +kernel
theorem d_Co_pass_112 : decode prog_2_method_4_code 112 = .ok (.ifCond .le 27, 3) := by decide +kernel
theorem d_Co_pass_115 : decode prog_2_method_4_code 115 = .ok (.aload_n 0, 1) := by decide +kernel
theorem d_Co_pass_116 : decode prog_2_method_4_code 116 = .ok (.iload 4, 2) := by decide +kernel
theorem d_Co_pass_118 : decode prog_2_method_4_code 118 = .ok (.iload 5, 2) := by decide +kernel
theorem d_Co_pass_120 : decode prog_2_method_4_code 120 = .ok (.invokevirtual 69, 3) := by decide +kernel
theorem d_Co_pass_123 : decode prog_2_method_4_code 123 = .ok (.ifCond .eq 16, 3) := by decide +kernel
theorem d_Co_pass_126 : decode prog_2_method_4_code 126 = .ok (.aload_n 0, 1) := by decide +kernel
theorem d_Co_pass_127 : decode prog_2_method_4_code 127 = .ok (.dup, 1) := by decide +kernel
theorem d_Co_pass_128 : decode prog_2_method_4_code 128 = .ok (.getfield 55, 3) := by decide +kernel
theorem d_Co_pass_131 : decode prog_2_method_4_code 131 = .ok (.iconst 1, 1) := by decide +kernel
theorem d_Co_pass_132 : decode prog_2_method_4_code 132 = .ok (.iload 4, 2) := by decide +kernel
theorem d_Co_pass_134 : decode prog_2_method_4_code 134 = .ok (.ishl, 1) := by decide +kernel
theorem d_Co_pass_135 : decode prog_2_method_4_code 135 = .ok (.ior, 1) := by decide +kernel
theorem d_Co_pass_136 : decode prog_2_method_4_code 136 = .ok (.putfield 55, 3) := by decide +kernel
theorem d_Co_pass_139 : decode prog_2_method_4_code 139 = .ok (.iinc 3 1, 3) := by decide +kernel
theorem d_Co_pass_142 : decode prog_2_method_4_code 142 = .ok (.goto (-69), 3) := by decide +kernel
theorem d_Co_pass_145 : decode prog_2_method_4_code 145 = .ok (.iconst 0, 1) := by decide +kernel
theorem d_Co_pass_146 : decode prog_2_method_4_code 146 = .ok (.istore_n 3, 1) := by decide +kernel
theorem d_Co_pass_147 : decode prog_2_method_4_code 147 = .ok (.iload_n 3, 1) := by decide +kernel
theorem d_Co_pass_148 : decode prog_2_method_4_code 148 = .ok (.aload_n 0, 1) := by decide +kernel
theorem d_Co_pass_149 : decode prog_2_method_4_code 149 = .ok (.getfield 41, 3) := by decide +kernel
theorem d_Co_pass_152 : decode prog_2_method_4_code 152 = .ok (.if_icmp .ge 32, 3) := by decide +kernel
theorem d_Co_pass_155 : decode prog_2_method_4_code 155 = .ok (.aload_n 0, 1) := by decide +kernel
theorem d_Co_pass_156 : decode prog_2_method_4_code 156 = .ok (.aload_n 0, 1) := by decide +kernel
theorem d_Co_pass_157 : decode prog_2_method_4_code 157 = .ok (.getfield 9, 3) := by decide +kernel
theorem d_Co_pass_160 : decode prog_2_method_4_code 160 = .ok (.iload_n 3, 1) := by decide +kernel
theorem d_Co_pass_161 : decode prog_2_method_4_code 161 = .ok (.iaload, 1) := by decide +kernel
theorem d_Co_pass_162 : decode prog_2_method_4_code 162 = .ok (.aload_n 0, 1) := by decide +kernel
theorem d_Co_pass_163 : decode prog_2_method_4_code 163 = .ok (.getfield 55, 3) := by decide +kernel
theorem d_Co_pass_166 : decode prog_2_method_4_code 166 = .ok (.aload_n 0, 1) := by decide +kernel
theorem d_Co_pass_167 : decode prog_2_method_4_code 167 = .ok (.getfield 9, 3) := by decide +kernel
theorem d_Co_pass_170 : decode prog_2_method_4_code 170 = .ok (.iload_n 3, 1) := by decide +kernel
theorem d_Co_pass_171 : decode prog_2_method_4_code 171 = .ok (.iaload, 1) := by decide +kernel
theorem d_Co_pass_172 : decode prog_2_method_4_code 172 = .ok (.invokestatic 50, 3) := by decide +kernel
theorem d_Co_pass_175 : decode prog_2_method_4_code 175 = .ok (.invokevirtual 73, 3) := by decide +kernel
theorem d_Co_pass_178 : decode prog_2_method_4_code 178 = .ok (.iinc 3 1, 3) := by decide +kernel
theorem d_Co_pass_181 : decode prog_2_method_4_code 181 = .ok (.goto (-34), 3) := by decide +kernel
theorem d_Co_pass_184 : decode prog_2_method_4_code 184 = .ok (.return_, 1) := by decide +kernel
def b_Co_pass_184 (c0 c1 c2 : ra_Sp) (I : Nat → ra_K) (Z : ra_R) : ra_K := w_vr Z
def b_Co_pass_155 (c0 c1 c2 : ra_Sp) (I : Nat → ra_K) (Z : ra_R) : ra_K := w_al 0 <| w_al 0 <| w_gr 4 2 <| w_il 3 <| w_ald <| w_al 0 <| w_gi 4 10 <| w_al 0 <| w_gr 4 2 <| w_il 3 <| w_ald <| w_cs c0 2 <| w_cv c2 3 4 <| w_inc 3 1 <| (I 147)
def b_Co_pass_147 (c0 c1 c2 : ra_Sp) (I : Nat → ra_K) (Z : ra_R) : ra_K := w_il 3 <| w_al 0 <| w_gi 4 9 <| w_b2 (fun x y => y ≤ x) (b_Co_pass_184 c0 c1 c2 I Z) (b_Co_pass_155 c0 c1 c2 I Z)
def b_Co_pass_145 (c0 c1 c2 : ra_Sp) (I : Nat → ra_K) (Z : ra_R) : ra_K := w_c 0 <| w_is 3 <| (I 147)
def b_Co_pass_139 (c0 c1 c2 : ra_Sp) (I : Nat → ra_K) (Z : ra_R) : ra_K := w_inc 3 1 <| (I 73)
def b_Co_pass_126 (c0 c1 c2 : ra_Sp) (I : Nat → ra_K) (Z : ra_R) : ra_K := w_al 0 <| w_dup <| w_gi 4 10 <| w_c 1 <| w_il 4 <| w_i2 (fun x y => x <<< (y &&& 31)) <| w_i2 (fun x y => x ||| y) <| w_pi 4 10 <| (b_Co_pass_139 c0 c1 c2 I Z)
def b_Co_pass_115 (c0 c1 c2 : ra_Sp) (I : Nat → ra_K) (Z : ra_R) : ra_K := w_al 0 <| w_il 4 <| w_il 5 <| w_cv c1 3 4 <| w_b1 (fun x => x = 0) (b_Co_pass_139 c0 c1 c2 I Z) (b_Co_pass_126 c0 c1 c2 I Z)
def b_Co_pass_81 (c0 c1 c2 : ra_Sp) (I : Nat → ra_K) (Z : ra_R) : ra_K := w_al 0 <| w_gr 4 2 <| w_il 3 <| w_ald <| w_is 4 <| w_il 2 <| w_al 0 <| w_gr 4 0 <| w_gr 1 6 <| w_il 4 <| w_ald <| w_cs c0 2 <| w_is 5 <| w_al 0 <| w_gr 4 8 <| w_il 4 <| w_ald <| w_b1 (fun x => x ≤ 0) (b_Co_pass_139 c0 c1 c2 I Z) (b_Co_pass_115 c0 c1 c2 I Z)
def b_Co_pass_73 (c0 c1 c2 : ra_Sp) (I : Nat → ra_K) (Z : ra_R) : ra_K := w_il 3 <| w_al 0 <| w_gi 4 9 <| w_b2 (fun x y => y ≤ x) (b_Co_pass_145 c0 c1 c2 I Z) (b_Co_pass_81 c0 c1 c2 I Z)
def b_Co_pass_71 (c0 c1 c2 : ra_Sp) (I : Nat → ra_K) (Z : ra_R) : ra_K := w_c 0 <| w_is 3 <| (I 73)
def b_Co_pass_20 (c0 c1 c2 : ra_Sp) (I : Nat → ra_K) (Z : ra_R) : ra_K := w_al 0 <| w_gr 4 2 <| w_il 3 <| w_ald <| w_is 4 <| w_al 0 <| w_gr 4 8 <| w_il 4 <| w_c 0 <| w_il 1 <| w_al 0 <| w_gr 4 4 <| w_il 4 <| w_ald <| w_i2 (fun x y => x - y) <| w_max <| w_ast <| w_al 0 <| w_gr 4 6 <| w_il 4 <| w_dup2 <| w_ald <| w_al 0 <| w_gr 4 8 <| w_il 4 <| w_ald <| w_i2 (fun x y => x + y) <| w_ast <| w_inc 3 1 <| (I 12)
def b_Co_pass_12 (c0 c1 c2 : ra_Sp) (I : Nat → ra_K) (Z : ra_R) : ra_K := w_il 3 <| w_al 0 <| w_gi 4 9 <| w_b2 (fun x y => y ≤ x) (b_Co_pass_71 c0 c1 c2 I Z) (b_Co_pass_20 c0 c1 c2 I Z)
def b_Co_pass_0 (c0 c1 c2 : ra_Sp) (I : Nat → ra_K) (Z : ra_R) : ra_K := w_al 0 <| w_gi 4 10 <| w_is 2 <| w_al 0 <| w_c 0 <| w_pi 4 10 <| w_c 0 <| w_is 3 <| (I 12)
theorem o_Co_pass_184 {X : ra_X} {p : Program} {l : Launch} {e : Env} {s : State} {m : MethodId} {args : Array Value} {below : List Frame} {meth : Method} {c : Code} {Z : ra_R} {c0 c1 c2 : ra_Sp}  (h0 : ra_MOK l X mi_R_has c0) (h1 : ra_MOK l X mi_Co_isLaidOn c1) (h2 : ra_MOK l X mi_Co_settle c2) (F : ra_Fx X p rm_Co_pass s m args c prog_2_method_4_code 6 cn_Co) (hr : meth.sig.returnType = none) (hlk : meth.locks = false) {I : Nat → ra_K} (hI : ∀ t ∈ [12, 73, 147], ra_At X p l e rm_Co_pass s m args below meth c 6 (MQ below (ra_Qc X Z) args s 0 0 (ra_A X)) (I t) t) : ra_At X p l e rm_Co_pass s m args below meth c 6 (MQ below (ra_Qc X Z) args s 0 0 (ra_A X)) (b_Co_pass_184 c0 c1 c2 I Z) 184 :=
  r_return F hr hlk d_Co_pass_184
theorem o_Co_pass_155 {X : ra_X} {p : Program} {l : Launch} {e : Env} {s : State} {m : MethodId} {args : Array Value} {below : List Frame} {meth : Method} {c : Code} {Z : ra_R} {c0 c1 c2 : ra_Sp}  (h0 : ra_MOK l X mi_R_has c0) (h1 : ra_MOK l X mi_Co_isLaidOn c1) (h2 : ra_MOK l X mi_Co_settle c2) (F : ra_Fx X p rm_Co_pass s m args c prog_2_method_4_code 6 cn_Co) (hr : meth.sig.returnType = none) (hlk : meth.locks = false) {I : Nat → ra_K} (hI : ∀ t ∈ [12, 73, 147], ra_At X p l e rm_Co_pass s m args below meth c 6 (MQ below (ra_Qc X Z) args s 0 0 (ra_A X)) (I t) t) : ra_At X p l e rm_Co_pass s m args below meth c 6 (MQ below (ra_Qc X Z) args s 0 0 (ra_A X)) (b_Co_pass_155 c0 c1 c2 I Z) 155 :=
  r_aload_n F d_Co_pass_155 rfl <| r_aload_n F d_Co_pass_156 rfl <| r_getR F cg_Co (j := 2) (by decide) rfl fl_Co_9 d_Co_pass_157 <| r_iload_n F d_Co_pass_160 rfl <| r_iaload F d_Co_pass_161 <| r_aload_n F d_Co_pass_162 rfl <| r_getI F cg_Co (j := 10) (by decide) rfl fl_Co_55 d_Co_pass_163 <| r_aload_n F d_Co_pass_166 rfl <| r_getR F cg_Co (j := 2) (by decide) rfl fl_Co_9 d_Co_pass_167 <| r_iload_n F d_Co_pass_170 rfl <| r_iaload F d_Co_pass_171 <| r_callSN F h0 (co_R_has (by decide +kernel) (by decide +kernel)) ⟨rfl, by decide +kernel⟩ (host := "RoofAcross") (by decide +kernel) st_R_has d_Co_pass_172 <| r_callV F h2 (co_Co_settle (by decide +kernel) (by decide +kernel)) ⟨rfl, by decide +kernel⟩ ⟨rfl, by decide⟩ ml_Co_73 im_Co_settle se_Co_settle d_Co_pass_175 <| r_iinc F d_Co_pass_178 (by decide) (by decide) <| r_goto F d_Co_pass_181 (by decide) (hI 147 (by decide))
theorem o_Co_pass_147 {X : ra_X} {p : Program} {l : Launch} {e : Env} {s : State} {m : MethodId} {args : Array Value} {below : List Frame} {meth : Method} {c : Code} {Z : ra_R} {c0 c1 c2 : ra_Sp}  (h0 : ra_MOK l X mi_R_has c0) (h1 : ra_MOK l X mi_Co_isLaidOn c1) (h2 : ra_MOK l X mi_Co_settle c2) (F : ra_Fx X p rm_Co_pass s m args c prog_2_method_4_code 6 cn_Co) (hr : meth.sig.returnType = none) (hlk : meth.locks = false) {I : Nat → ra_K} (hI : ∀ t ∈ [12, 73, 147], ra_At X p l e rm_Co_pass s m args below meth c 6 (MQ below (ra_Qc X Z) args s 0 0 (ra_A X)) (I t) t) : ra_At X p l e rm_Co_pass s m args below meth c 6 (MQ below (ra_Qc X Z) args s 0 0 (ra_A X)) (b_Co_pass_147 c0 c1 c2 I Z) 147 :=
  r_iload_n F d_Co_pass_147 rfl <| r_aload_n F d_Co_pass_148 rfl <| r_getI F cg_Co (j := 9) (by decide) rfl fl_Co_41 d_Co_pass_149 <| r_icmp_ge F d_Co_pass_152 (by decide) (o_Co_pass_184 h0 h1 h2 F hr hlk hI) (o_Co_pass_155 h0 h1 h2 F hr hlk hI)
theorem o_Co_pass_145 {X : ra_X} {p : Program} {l : Launch} {e : Env} {s : State} {m : MethodId} {args : Array Value} {below : List Frame} {meth : Method} {c : Code} {Z : ra_R} {c0 c1 c2 : ra_Sp}  (h0 : ra_MOK l X mi_R_has c0) (h1 : ra_MOK l X mi_Co_isLaidOn c1) (h2 : ra_MOK l X mi_Co_settle c2) (F : ra_Fx X p rm_Co_pass s m args c prog_2_method_4_code 6 cn_Co) (hr : meth.sig.returnType = none) (hlk : meth.locks = false) {I : Nat → ra_K} (hI : ∀ t ∈ [12, 73, 147], ra_At X p l e rm_Co_pass s m args below meth c 6 (MQ below (ra_Qc X Z) args s 0 0 (ra_A X)) (I t) t) : ra_At X p l e rm_Co_pass s m args below meth c 6 (MQ below (ra_Qc X Z) args s 0 0 (ra_A X)) (b_Co_pass_145 c0 c1 c2 I Z) 145 :=
  r_iconst F d_Co_pass_145 (by decide) <| r_istore_n F d_Co_pass_146 rfl (by decide) <| (hI 147 (by decide))
theorem o_Co_pass_139 {X : ra_X} {p : Program} {l : Launch} {e : Env} {s : State} {m : MethodId} {args : Array Value} {below : List Frame} {meth : Method} {c : Code} {Z : ra_R} {c0 c1 c2 : ra_Sp}  (h0 : ra_MOK l X mi_R_has c0) (h1 : ra_MOK l X mi_Co_isLaidOn c1) (h2 : ra_MOK l X mi_Co_settle c2) (F : ra_Fx X p rm_Co_pass s m args c prog_2_method_4_code 6 cn_Co) (hr : meth.sig.returnType = none) (hlk : meth.locks = false) {I : Nat → ra_K} (hI : ∀ t ∈ [12, 73, 147], ra_At X p l e rm_Co_pass s m args below meth c 6 (MQ below (ra_Qc X Z) args s 0 0 (ra_A X)) (I t) t) : ra_At X p l e rm_Co_pass s m args below meth c 6 (MQ below (ra_Qc X Z) args s 0 0 (ra_A X)) (b_Co_pass_139 c0 c1 c2 I Z) 139 :=
  r_iinc F d_Co_pass_139 (by decide) (by decide) <| r_goto F d_Co_pass_142 (by decide) (hI 73 (by decide))
theorem o_Co_pass_126 {X : ra_X} {p : Program} {l : Launch} {e : Env} {s : State} {m : MethodId} {args : Array Value} {below : List Frame} {meth : Method} {c : Code} {Z : ra_R} {c0 c1 c2 : ra_Sp}  (h0 : ra_MOK l X mi_R_has c0) (h1 : ra_MOK l X mi_Co_isLaidOn c1) (h2 : ra_MOK l X mi_Co_settle c2) (F : ra_Fx X p rm_Co_pass s m args c prog_2_method_4_code 6 cn_Co) (hr : meth.sig.returnType = none) (hlk : meth.locks = false) {I : Nat → ra_K} (hI : ∀ t ∈ [12, 73, 147], ra_At X p l e rm_Co_pass s m args below meth c 6 (MQ below (ra_Qc X Z) args s 0 0 (ra_A X)) (I t) t) : ra_At X p l e rm_Co_pass s m args below meth c 6 (MQ below (ra_Qc X Z) args s 0 0 (ra_A X)) (b_Co_pass_126 c0 c1 c2 I Z) 126 :=
  r_aload_n F d_Co_pass_126 rfl <| r_dup F d_Co_pass_127 <| r_getI F cg_Co (j := 10) (by decide) rfl fl_Co_55 d_Co_pass_128 <| r_iconst F d_Co_pass_131 (by decide) <| r_iload F d_Co_pass_132 <| r_ishl F d_Co_pass_134 <| r_ior F d_Co_pass_135 <| r_putI F cg_Co (j := 10) (by decide) rfl rfl rfl fl_Co_55 d_Co_pass_136 <| (o_Co_pass_139 h0 h1 h2 F hr hlk hI)
theorem o_Co_pass_115 {X : ra_X} {p : Program} {l : Launch} {e : Env} {s : State} {m : MethodId} {args : Array Value} {below : List Frame} {meth : Method} {c : Code} {Z : ra_R} {c0 c1 c2 : ra_Sp}  (h0 : ra_MOK l X mi_R_has c0) (h1 : ra_MOK l X mi_Co_isLaidOn c1) (h2 : ra_MOK l X mi_Co_settle c2) (F : ra_Fx X p rm_Co_pass s m args c prog_2_method_4_code 6 cn_Co) (hr : meth.sig.returnType = none) (hlk : meth.locks = false) {I : Nat → ra_K} (hI : ∀ t ∈ [12, 73, 147], ra_At X p l e rm_Co_pass s m args below meth c 6 (MQ below (ra_Qc X Z) args s 0 0 (ra_A X)) (I t) t) : ra_At X p l e rm_Co_pass s m args below meth c 6 (MQ below (ra_Qc X Z) args s 0 0 (ra_A X)) (b_Co_pass_115 c0 c1 c2 I Z) 115 :=
  r_aload_n F d_Co_pass_115 rfl <| r_iload F d_Co_pass_116 <| r_iload F d_Co_pass_118 <| r_callV F h1 (co_Co_isLaidOn (by decide +kernel) (by decide +kernel)) ⟨rfl, by decide +kernel⟩ ⟨rfl, by decide⟩ ml_Co_69 im_Co_isLaidOn se_Co_isLaidOn d_Co_pass_120 <| r_if_eq F d_Co_pass_123 (by decide) (o_Co_pass_139 h0 h1 h2 F hr hlk hI) (o_Co_pass_126 h0 h1 h2 F hr hlk hI)
theorem o_Co_pass_81 {X : ra_X} {p : Program} {l : Launch} {e : Env} {s : State} {m : MethodId} {args : Array Value} {below : List Frame} {meth : Method} {c : Code} {Z : ra_R} {c0 c1 c2 : ra_Sp}  (h0 : ra_MOK l X mi_R_has c0) (h1 : ra_MOK l X mi_Co_isLaidOn c1) (h2 : ra_MOK l X mi_Co_settle c2) (F : ra_Fx X p rm_Co_pass s m args c prog_2_method_4_code 6 cn_Co) (hr : meth.sig.returnType = none) (hlk : meth.locks = false) {I : Nat → ra_K} (hI : ∀ t ∈ [12, 73, 147], ra_At X p l e rm_Co_pass s m args below meth c 6 (MQ below (ra_Qc X Z) args s 0 0 (ra_A X)) (I t) t) : ra_At X p l e rm_Co_pass s m args below meth c 6 (MQ below (ra_Qc X Z) args s 0 0 (ra_A X)) (b_Co_pass_81 c0 c1 c2 I Z) 81 :=
  r_aload_n F d_Co_pass_81 rfl <| r_getR F cg_Co (j := 2) (by decide) rfl fl_Co_9 d_Co_pass_82 <| r_iload_n F d_Co_pass_85 rfl <| r_iaload F d_Co_pass_86 <| r_istore F d_Co_pass_87 (by decide) <| r_iload_n F d_Co_pass_89 rfl <| r_aload_n F d_Co_pass_90 rfl <| r_getR F cg_Co (j := 0) (by decide) rfl fl_Co_33 d_Co_pass_91 <| r_getR F cg_V (j := 6) (by decide) rfl fl_Co_66 d_Co_pass_94 <| r_iload F d_Co_pass_97 <| r_iaload F d_Co_pass_99 <| r_callSN F h0 (co_R_has (by decide +kernel) (by decide +kernel)) ⟨rfl, by decide +kernel⟩ (host := "RoofAcross") (by decide +kernel) st_R_has d_Co_pass_100 <| r_istore F d_Co_pass_103 (by decide) <| r_aload_n F d_Co_pass_105 rfl <| r_getR F cg_Co (j := 8) (by decide) rfl fl_Co_30 d_Co_pass_106 <| r_iload F d_Co_pass_109 <| r_iaload F d_Co_pass_111 <| r_if_le F d_Co_pass_112 (by decide) (o_Co_pass_139 h0 h1 h2 F hr hlk hI) (o_Co_pass_115 h0 h1 h2 F hr hlk hI)
theorem o_Co_pass_73 {X : ra_X} {p : Program} {l : Launch} {e : Env} {s : State} {m : MethodId} {args : Array Value} {below : List Frame} {meth : Method} {c : Code} {Z : ra_R} {c0 c1 c2 : ra_Sp}  (h0 : ra_MOK l X mi_R_has c0) (h1 : ra_MOK l X mi_Co_isLaidOn c1) (h2 : ra_MOK l X mi_Co_settle c2) (F : ra_Fx X p rm_Co_pass s m args c prog_2_method_4_code 6 cn_Co) (hr : meth.sig.returnType = none) (hlk : meth.locks = false) {I : Nat → ra_K} (hI : ∀ t ∈ [12, 73, 147], ra_At X p l e rm_Co_pass s m args below meth c 6 (MQ below (ra_Qc X Z) args s 0 0 (ra_A X)) (I t) t) : ra_At X p l e rm_Co_pass s m args below meth c 6 (MQ below (ra_Qc X Z) args s 0 0 (ra_A X)) (b_Co_pass_73 c0 c1 c2 I Z) 73 :=
  r_iload_n F d_Co_pass_73 rfl <| r_aload_n F d_Co_pass_74 rfl <| r_getI F cg_Co (j := 9) (by decide) rfl fl_Co_41 d_Co_pass_75 <| r_icmp_ge F d_Co_pass_78 (by decide) (o_Co_pass_145 h0 h1 h2 F hr hlk hI) (o_Co_pass_81 h0 h1 h2 F hr hlk hI)
theorem o_Co_pass_71 {X : ra_X} {p : Program} {l : Launch} {e : Env} {s : State} {m : MethodId} {args : Array Value} {below : List Frame} {meth : Method} {c : Code} {Z : ra_R} {c0 c1 c2 : ra_Sp}  (h0 : ra_MOK l X mi_R_has c0) (h1 : ra_MOK l X mi_Co_isLaidOn c1) (h2 : ra_MOK l X mi_Co_settle c2) (F : ra_Fx X p rm_Co_pass s m args c prog_2_method_4_code 6 cn_Co) (hr : meth.sig.returnType = none) (hlk : meth.locks = false) {I : Nat → ra_K} (hI : ∀ t ∈ [12, 73, 147], ra_At X p l e rm_Co_pass s m args below meth c 6 (MQ below (ra_Qc X Z) args s 0 0 (ra_A X)) (I t) t) : ra_At X p l e rm_Co_pass s m args below meth c 6 (MQ below (ra_Qc X Z) args s 0 0 (ra_A X)) (b_Co_pass_71 c0 c1 c2 I Z) 71 :=
  r_iconst F d_Co_pass_71 (by decide) <| r_istore_n F d_Co_pass_72 rfl (by decide) <| (hI 73 (by decide))
theorem o_Co_pass_20 {X : ra_X} {p : Program} {l : Launch} {e : Env} {s : State} {m : MethodId} {args : Array Value} {below : List Frame} {meth : Method} {c : Code} {Z : ra_R} {c0 c1 c2 : ra_Sp}  (h0 : ra_MOK l X mi_R_has c0) (h1 : ra_MOK l X mi_Co_isLaidOn c1) (h2 : ra_MOK l X mi_Co_settle c2) (F : ra_Fx X p rm_Co_pass s m args c prog_2_method_4_code 6 cn_Co) (hr : meth.sig.returnType = none) (hlk : meth.locks = false) {I : Nat → ra_K} (hI : ∀ t ∈ [12, 73, 147], ra_At X p l e rm_Co_pass s m args below meth c 6 (MQ below (ra_Qc X Z) args s 0 0 (ra_A X)) (I t) t) : ra_At X p l e rm_Co_pass s m args below meth c 6 (MQ below (ra_Qc X Z) args s 0 0 (ra_A X)) (b_Co_pass_20 c0 c1 c2 I Z) 20 :=
  r_aload_n F d_Co_pass_20 rfl <| r_getR F cg_Co (j := 2) (by decide) rfl fl_Co_9 d_Co_pass_21 <| r_iload_n F d_Co_pass_24 rfl <| r_iaload F d_Co_pass_25 <| r_istore F d_Co_pass_26 (by decide) <| r_aload_n F d_Co_pass_28 rfl <| r_getR F cg_Co (j := 8) (by decide) rfl fl_Co_30 d_Co_pass_29 <| r_iload F d_Co_pass_32 <| r_iconst F d_Co_pass_34 (by decide) <| r_iload_n F d_Co_pass_35 rfl <| r_aload_n F d_Co_pass_36 rfl <| r_getR F cg_Co (j := 4) (by decide) rfl fl_Co_18 d_Co_pass_37 <| r_iload F d_Co_pass_40 <| r_iaload F d_Co_pass_42 <| r_isub F d_Co_pass_43 <| r_max F ml_Co_60 jw_max1 jw_math jw_max3 d_Co_pass_44 <| r_iastore F d_Co_pass_47 <| r_aload_n F d_Co_pass_48 rfl <| r_getR F cg_Co (j := 6) (by decide) rfl fl_Co_24 d_Co_pass_49 <| r_iload F d_Co_pass_52 <| r_dup2 F d_Co_pass_54 <| r_iaload F d_Co_pass_55 <| r_aload_n F d_Co_pass_56 rfl <| r_getR F cg_Co (j := 8) (by decide) rfl fl_Co_30 d_Co_pass_57 <| r_iload F d_Co_pass_60 <| r_iaload F d_Co_pass_62 <| r_iadd F d_Co_pass_63 <| r_iastore F d_Co_pass_64 <| r_iinc F d_Co_pass_65 (by decide) (by decide) <| r_goto F d_Co_pass_68 (by decide) (hI 12 (by decide))
theorem o_Co_pass_12 {X : ra_X} {p : Program} {l : Launch} {e : Env} {s : State} {m : MethodId} {args : Array Value} {below : List Frame} {meth : Method} {c : Code} {Z : ra_R} {c0 c1 c2 : ra_Sp}  (h0 : ra_MOK l X mi_R_has c0) (h1 : ra_MOK l X mi_Co_isLaidOn c1) (h2 : ra_MOK l X mi_Co_settle c2) (F : ra_Fx X p rm_Co_pass s m args c prog_2_method_4_code 6 cn_Co) (hr : meth.sig.returnType = none) (hlk : meth.locks = false) {I : Nat → ra_K} (hI : ∀ t ∈ [12, 73, 147], ra_At X p l e rm_Co_pass s m args below meth c 6 (MQ below (ra_Qc X Z) args s 0 0 (ra_A X)) (I t) t) : ra_At X p l e rm_Co_pass s m args below meth c 6 (MQ below (ra_Qc X Z) args s 0 0 (ra_A X)) (b_Co_pass_12 c0 c1 c2 I Z) 12 :=
  r_iload_n F d_Co_pass_12 rfl <| r_aload_n F d_Co_pass_13 rfl <| r_getI F cg_Co (j := 9) (by decide) rfl fl_Co_41 d_Co_pass_14 <| r_icmp_ge F d_Co_pass_17 (by decide) (o_Co_pass_71 h0 h1 h2 F hr hlk hI) (o_Co_pass_20 h0 h1 h2 F hr hlk hI)
theorem o_Co_pass_0 {X : ra_X} {p : Program} {l : Launch} {e : Env} {s : State} {m : MethodId} {args : Array Value} {below : List Frame} {meth : Method} {c : Code} {Z : ra_R} {c0 c1 c2 : ra_Sp}  (h0 : ra_MOK l X mi_R_has c0) (h1 : ra_MOK l X mi_Co_isLaidOn c1) (h2 : ra_MOK l X mi_Co_settle c2) (F : ra_Fx X p rm_Co_pass s m args c prog_2_method_4_code 6 cn_Co) (hr : meth.sig.returnType = none) (hlk : meth.locks = false) {I : Nat → ra_K} (hI : ∀ t ∈ [12, 73, 147], ra_At X p l e rm_Co_pass s m args below meth c 6 (MQ below (ra_Qc X Z) args s 0 0 (ra_A X)) (I t) t) : ra_At X p l e rm_Co_pass s m args below meth c 6 (MQ below (ra_Qc X Z) args s 0 0 (ra_A X)) (b_Co_pass_0 c0 c1 c2 I Z) 0 :=
  r_aload_n F d_Co_pass_0 rfl <| r_getI F cg_Co (j := 10) (by decide) rfl fl_Co_55 d_Co_pass_1 <| r_istore_n F d_Co_pass_4 rfl (by decide) <| r_aload_n F d_Co_pass_5 rfl <| r_iconst F d_Co_pass_6 (by decide) <| r_putI F cg_Co (j := 10) (by decide) rfl rfl rfl fl_Co_55 d_Co_pass_7 <| r_iconst F d_Co_pass_10 (by decide) <| r_istore_n F d_Co_pass_11 rfl (by decide) <| (hI 12 (by decide))
theorem g_Co_pass {l : Launch} {X : ra_X} {c0 c1 c2 : ra_Sp}  (h0 : ra_MOK l X mi_R_has c0) (h1 : ra_MOK l X mi_Co_isLaidOn c1) (h2 : ra_MOK l X mi_Co_settle c2) (sp : ra_Sp) (I : ra_R → List Value → ra_St → Nat → ra_M → ra_K) (ve : ∀ as σ Z, ra_c1 as = true → as.length = 2 → sp as σ Z → b_Co_pass_0 c0 c1 c2 (ra_I (I Z as σ)) Z (ra_pad 6 as) [] σ) (v12 : ∀ as σ Z, sp as σ Z → ∀ μ L S σ1, I Z as σ 12 μ L S σ1 → b_Co_pass_12 c0 c1 c2 (ra_J (I Z as σ) μ) Z L S σ1) (v73 : ∀ as σ Z, sp as σ Z → ∀ μ L S σ1, I Z as σ 73 μ L S σ1 → b_Co_pass_73 c0 c1 c2 (ra_J (I Z as σ) μ) Z L S σ1) (v147 : ∀ as σ Z, sp as σ Z → ∀ μ L S σ1, I Z as σ 147 μ L S σ1 → b_Co_pass_147 c0 c1 c2 (ra_J (I Z as σ) μ) Z L S σ1) : ra_MOK l X mi_Co_pass sp := by
  refine ra_enter (k := fun Z as σ => b_Co_pass_0 c0 c1 c2 (ra_I (I Z as σ)) Z) cn_Co rfl (by decide +kernel) ⟨by decide +kernel, by decide +kernel⟩ (by decide +kernel) ?_ ve
  intro p e s m args below meth c Z as σ hsp F hr hlk
  refine o_Co_pass_0 h0 h1 h2 F hr hlk (ra_cuts (b := fun t J => if t = 12 then b_Co_pass_12 c0 c1 c2 J Z else if t = 73 then b_Co_pass_73 c0 c1 c2 J Z else if t = 147 then b_Co_pass_147 c0 c1 c2 J Z else fun _ _ _ => False) ?_ ?_)
  · intro t ht J hJ
    simp only [List.mem_cons, List.not_mem_nil, or_false] at ht
    rcases ht with rfl | rfl | rfl
    · exact o_Co_pass_12 h0 h1 h2 F hr hlk hJ
    · exact o_Co_pass_73 h0 h1 h2 F hr hlk hJ
    · exact o_Co_pass_147 h0 h1 h2 F hr hlk hJ
  · intro t ht μ L S σ1 hI
    simp only [List.mem_cons, List.not_mem_nil, or_false] at ht
    rcases ht with rfl | rfl | rfl
    · exact v12 as σ Z hsp μ L S σ1 hI
    · exact v73 as σ Z hsp μ L S σ1 hI
    · exact v147 as σ Z hsp μ L S σ1 hI

theorem d_So_tell_0 : decode prog_8_method_3_code 0 = .ok (.aload_n 0, 1) := by decide +kernel
theorem d_So_tell_1 : decode prog_8_method_3_code 1 = .ok (.getfield 33, 3) := by decide +kernel
theorem d_So_tell_4 : decode prog_8_method_3_code 4 = .ok (.sipush 255, 3) := by decide +kernel
theorem d_So_tell_7 : decode prog_8_method_3_code 7 = .ok (.invokevirtual 48, 3) := by decide +kernel
theorem d_So_tell_10 : decode prog_8_method_3_code 10 = .ok (.aload_n 0, 1) := by decide +kernel
theorem d_So_tell_11 : decode prog_8_method_3_code 11 = .ok (.getfield 33, 3) := by decide +kernel
theorem d_So_tell_14 : decode prog_8_method_3_code 14 = .ok (.invokevirtual 52, 3) := by decide +kernel
theorem d_So_tell_17 : decode prog_8_method_3_code 17 = .ok (.aload_n 0, 1) := by decide +kernel
theorem d_So_tell_18 : decode prog_8_method_3_code 18 = .ok (.iconst 0, 1) := by decide +kernel
theorem d_So_tell_19 : decode prog_8_method_3_code 19 = .ok (.invokevirtual 55, 3) := by decide +kernel
theorem d_So_tell_22 : decode prog_8_method_3_code 22 = .ok (.iconst 0, 1) := by decide +kernel
theorem d_So_tell_23 : decode prog_8_method_3_code 23 = .ok (.istore_n 1, 1) := by decide +kernel
theorem d_So_tell_24 : decode prog_8_method_3_code 24 = .ok (.iload_n 1, 1) := by decide +kernel
theorem d_So_tell_25 : decode prog_8_method_3_code 25 = .ok (.aload_n 0, 1) := by decide +kernel
theorem d_So_tell_26 : decode prog_8_method_3_code 26 = .ok (.getfield 24, 3) := by decide +kernel
theorem d_So_tell_29 : decode prog_8_method_3_code 29 = .ok (.getfield 58, 3) := by decide +kernel
theorem d_So_tell_32 : decode prog_8_method_3_code 32 = .ok (.if_icmp .ge 32, 3) := by decide +kernel
theorem d_So_tell_35 : decode prog_8_method_3_code 35 = .ok (.aload_n 0, 1) := by decide +kernel
theorem d_So_tell_36 : decode prog_8_method_3_code 36 = .ok (.getfield 33, 3) := by decide +kernel
theorem d_So_tell_39 : decode prog_8_method_3_code 39 = .ok (.aload_n 0, 1) := by decide +kernel
theorem d_So_tell_40 : decode prog_8_method_3_code 40 = .ok (.getfield 24, 3) := by decide +kernel
theorem d_So_tell_43 : decode prog_8_method_3_code 43 = .ok (.getfield 61, 3) := by decide +kernel
theorem d_So_tell_46 : decode prog_8_method_3_code 46 = .ok (.iload_n 1, 1) := by decide +kernel
theorem d_So_tell_47 : decode prog_8_method_3_code 47 = .ok (.iaload, 1) := by decide +kernel
theorem d_So_tell_48 : decode prog_8_method_3_code 48 = .ok (.invokevirtual 65, 3) := by decide +kernel
theorem d_So_tell_51 : decode prog_8_method_3_code 51 = .ok (.aload_n 0, 1) := by decide +kernel
theorem d_So_tell_52 : decode prog_8_method_3_code 52 = .ok (.iload_n 1, 1) := by decide +kernel
theorem d_So_tell_53 : decode prog_8_method_3_code 53 = .ok (.iconst 1, 1) := by decide +kernel
theorem d_So_tell_54 : decode prog_8_method_3_code 54 = .ok (.iadd, 1) := by decide +kernel
theorem d_So_tell_55 : decode prog_8_method_3_code 55 = .ok (.invokevirtual 55, 3) := by decide +kernel
theorem d_So_tell_58 : decode prog_8_method_3_code 58 = .ok (.iinc 1 1, 3) := by decide +kernel
theorem d_So_tell_61 : decode prog_8_method_3_code 61 = .ok (.goto (-37), 3) := by decide +kernel
theorem d_So_tell_64 : decode prog_8_method_3_code 64 = .ok (.return_, 1) := by decide +kernel
def b_So_tell_64 (c0 c1 c2 c3 : ra_Sp) (I : Nat → ra_K) (Z : ra_R) : ra_K := w_vr Z
def b_So_tell_35 (c0 c1 c2 c3 : ra_Sp) (I : Nat → ra_K) (Z : ra_R) : ra_K := w_al 0 <| w_gr 5 2 <| w_al 0 <| w_gr 5 1 <| w_gr 3 0 <| w_il 1 <| w_ald <| w_cv c3 2 4 <| w_al 0 <| w_il 1 <| w_c 1 <| w_i2 (fun x y => x + y) <| w_cv c2 2 5 <| w_inc 1 1 <| (I 24)
def b_So_tell_24 (c0 c1 c2 c3 : ra_Sp) (I : Nat → ra_K) (Z : ra_R) : ra_K := w_il 1 <| w_al 0 <| w_gr 5 1 <| w_gi 3 1 <| w_b2 (fun x y => y ≤ x) (b_So_tell_64 c0 c1 c2 c3 I Z) (b_So_tell_35 c0 c1 c2 c3 I Z)
def b_So_tell_0 (c0 c1 c2 c3 : ra_Sp) (I : Nat → ra_K) (Z : ra_R) : ra_K := w_al 0 <| w_gr 5 2 <| w_c 255 <| w_cv c0 2 4 <| w_al 0 <| w_gr 5 2 <| w_cv c1 1 4 <| w_al 0 <| w_c 0 <| w_cv c2 2 5 <| w_c 0 <| w_is 1 <| (I 24)
theorem o_So_tell_64 {X : ra_X} {p : Program} {l : Launch} {e : Env} {s : State} {m : MethodId} {args : Array Value} {below : List Frame} {meth : Method} {c : Code} {Z : ra_R} {c0 c1 c2 c3 : ra_Sp}  (h0 : ra_MOK l X mi_Co_choose c0) (h1 : ra_MOK l X mi_Co_begin c1) (h2 : ra_MOK l X mi_So_note c2) (h3 : ra_MOK l X mi_Co_pass c3) (F : ra_Fx X p rm_So_tell s m args c prog_8_method_3_code 2 cn_So) (hr : meth.sig.returnType = none) (hlk : meth.locks = false) {I : Nat → ra_K} (hI : ∀ t ∈ [24], ra_At X p l e rm_So_tell s m args below meth c 2 (MQ below (ra_Qc X Z) args s 0 0 (ra_A X)) (I t) t) : ra_At X p l e rm_So_tell s m args below meth c 2 (MQ below (ra_Qc X Z) args s 0 0 (ra_A X)) (b_So_tell_64 c0 c1 c2 c3 I Z) 64 :=
  r_return F hr hlk d_So_tell_64
theorem o_So_tell_35 {X : ra_X} {p : Program} {l : Launch} {e : Env} {s : State} {m : MethodId} {args : Array Value} {below : List Frame} {meth : Method} {c : Code} {Z : ra_R} {c0 c1 c2 c3 : ra_Sp}  (h0 : ra_MOK l X mi_Co_choose c0) (h1 : ra_MOK l X mi_Co_begin c1) (h2 : ra_MOK l X mi_So_note c2) (h3 : ra_MOK l X mi_Co_pass c3) (F : ra_Fx X p rm_So_tell s m args c prog_8_method_3_code 2 cn_So) (hr : meth.sig.returnType = none) (hlk : meth.locks = false) {I : Nat → ra_K} (hI : ∀ t ∈ [24], ra_At X p l e rm_So_tell s m args below meth c 2 (MQ below (ra_Qc X Z) args s 0 0 (ra_A X)) (I t) t) : ra_At X p l e rm_So_tell s m args below meth c 2 (MQ below (ra_Qc X Z) args s 0 0 (ra_A X)) (b_So_tell_35 c0 c1 c2 c3 I Z) 35 :=
  r_aload_n F d_So_tell_35 rfl <| r_getR F cg_So (j := 2) (by decide) rfl fl_So_33 d_So_tell_36 <| r_aload_n F d_So_tell_39 rfl <| r_getR F cg_So (j := 1) (by decide) rfl fl_So_24 d_So_tell_40 <| r_getR F cg_Wt (j := 0) (by decide) rfl fl_So_61 d_So_tell_43 <| r_iload_n F d_So_tell_46 rfl <| r_iaload F d_So_tell_47 <| r_callV F h3 (co_Co_pass (by decide +kernel) (by decide +kernel)) ⟨rfl, by decide +kernel⟩ ⟨rfl, by decide⟩ ml_So_65 im_Co_pass se_Co_pass d_So_tell_48 <| r_aload_n F d_So_tell_51 rfl <| r_iload_n F d_So_tell_52 rfl <| r_iconst F d_So_tell_53 (by decide) <| r_iadd F d_So_tell_54 <| r_callV F h2 (co_So_note (by decide +kernel) (by decide +kernel)) ⟨rfl, by decide +kernel⟩ ⟨rfl, by decide⟩ ml_So_55 im_So_note se_So_note d_So_tell_55 <| r_iinc F d_So_tell_58 (by decide) (by decide) <| r_goto F d_So_tell_61 (by decide) (hI 24 (by decide))
theorem o_So_tell_24 {X : ra_X} {p : Program} {l : Launch} {e : Env} {s : State} {m : MethodId} {args : Array Value} {below : List Frame} {meth : Method} {c : Code} {Z : ra_R} {c0 c1 c2 c3 : ra_Sp}  (h0 : ra_MOK l X mi_Co_choose c0) (h1 : ra_MOK l X mi_Co_begin c1) (h2 : ra_MOK l X mi_So_note c2) (h3 : ra_MOK l X mi_Co_pass c3) (F : ra_Fx X p rm_So_tell s m args c prog_8_method_3_code 2 cn_So) (hr : meth.sig.returnType = none) (hlk : meth.locks = false) {I : Nat → ra_K} (hI : ∀ t ∈ [24], ra_At X p l e rm_So_tell s m args below meth c 2 (MQ below (ra_Qc X Z) args s 0 0 (ra_A X)) (I t) t) : ra_At X p l e rm_So_tell s m args below meth c 2 (MQ below (ra_Qc X Z) args s 0 0 (ra_A X)) (b_So_tell_24 c0 c1 c2 c3 I Z) 24 :=
  r_iload_n F d_So_tell_24 rfl <| r_aload_n F d_So_tell_25 rfl <| r_getR F cg_So (j := 1) (by decide) rfl fl_So_24 d_So_tell_26 <| r_getI F cg_Wt (j := 1) (by decide) rfl fl_So_58 d_So_tell_29 <| r_icmp_ge F d_So_tell_32 (by decide) (o_So_tell_64 h0 h1 h2 h3 F hr hlk hI) (o_So_tell_35 h0 h1 h2 h3 F hr hlk hI)
theorem o_So_tell_0 {X : ra_X} {p : Program} {l : Launch} {e : Env} {s : State} {m : MethodId} {args : Array Value} {below : List Frame} {meth : Method} {c : Code} {Z : ra_R} {c0 c1 c2 c3 : ra_Sp}  (h0 : ra_MOK l X mi_Co_choose c0) (h1 : ra_MOK l X mi_Co_begin c1) (h2 : ra_MOK l X mi_So_note c2) (h3 : ra_MOK l X mi_Co_pass c3) (F : ra_Fx X p rm_So_tell s m args c prog_8_method_3_code 2 cn_So) (hr : meth.sig.returnType = none) (hlk : meth.locks = false) {I : Nat → ra_K} (hI : ∀ t ∈ [24], ra_At X p l e rm_So_tell s m args below meth c 2 (MQ below (ra_Qc X Z) args s 0 0 (ra_A X)) (I t) t) : ra_At X p l e rm_So_tell s m args below meth c 2 (MQ below (ra_Qc X Z) args s 0 0 (ra_A X)) (b_So_tell_0 c0 c1 c2 c3 I Z) 0 :=
  r_aload_n F d_So_tell_0 rfl <| r_getR F cg_So (j := 2) (by decide) rfl fl_So_33 d_So_tell_1 <| r_sipush F d_So_tell_4 (by decide) <| r_callV F h0 (co_Co_choose (by decide +kernel) (by decide +kernel)) ⟨rfl, by decide +kernel⟩ ⟨rfl, by decide⟩ ml_So_48 im_Co_choose se_Co_choose d_So_tell_7 <| r_aload_n F d_So_tell_10 rfl <| r_getR F cg_So (j := 2) (by decide) rfl fl_So_33 d_So_tell_11 <| r_callV F h1 (co_Co_begin (by decide +kernel) (by decide +kernel)) ⟨rfl, by decide +kernel⟩ ⟨rfl, by decide⟩ ml_So_52 im_Co_begin se_Co_begin d_So_tell_14 <| r_aload_n F d_So_tell_17 rfl <| r_iconst F d_So_tell_18 (by decide) <| r_callV F h2 (co_So_note (by decide +kernel) (by decide +kernel)) ⟨rfl, by decide +kernel⟩ ⟨rfl, by decide⟩ ml_So_55 im_So_note se_So_note d_So_tell_19 <| r_iconst F d_So_tell_22 (by decide) <| r_istore_n F d_So_tell_23 rfl (by decide) <| (hI 24 (by decide))
theorem g_So_tell {l : Launch} {X : ra_X} {c0 c1 c2 c3 : ra_Sp}  (h0 : ra_MOK l X mi_Co_choose c0) (h1 : ra_MOK l X mi_Co_begin c1) (h2 : ra_MOK l X mi_So_note c2) (h3 : ra_MOK l X mi_Co_pass c3) (sp : ra_Sp) (I : ra_R → List Value → ra_St → Nat → ra_M → ra_K) (ve : ∀ as σ Z, ra_c1 as = true → as.length = 1 → sp as σ Z → b_So_tell_0 c0 c1 c2 c3 (ra_I (I Z as σ)) Z (ra_pad 2 as) [] σ) (v24 : ∀ as σ Z, sp as σ Z → ∀ μ L S σ1, I Z as σ 24 μ L S σ1 → b_So_tell_24 c0 c1 c2 c3 (ra_J (I Z as σ) μ) Z L S σ1) : ra_MOK l X mi_So_tell sp := by
  refine ra_enter (k := fun Z as σ => b_So_tell_0 c0 c1 c2 c3 (ra_I (I Z as σ)) Z) cn_So rfl (by decide +kernel) ⟨by decide +kernel, by decide +kernel⟩ (by decide +kernel) ?_ ve
  intro p e s m args below meth c Z as σ hsp F hr hlk
  refine o_So_tell_0 h0 h1 h2 h3 F hr hlk (ra_cuts (b := fun t J => if t = 24 then b_So_tell_24 c0 c1 c2 c3 J Z else fun _ _ _ => False) ?_ ?_)
  · intro t ht J hJ
    simp only [List.mem_cons, List.not_mem_nil, or_false] at ht
    rcases ht with rfl
    · exact o_So_tell_24 h0 h1 h2 h3 F hr hlk hJ
  · intro t ht μ L S σ1 hI
    simp only [List.mem_cons, List.not_mem_nil, or_false] at ht
    rcases ht with rfl
    · exact v24 as σ Z hsp μ L S σ1 hI

theorem d_So_rowOf_0 : decode prog_8_method_2_code 0 = .ok (.aload_n 0, 1) := by decide +kernel
theorem d_So_rowOf_1 : decode prog_8_method_2_code 1 = .ok (.getfield 20, 3) := by decide +kernel
theorem d_So_rowOf_4 : decode prog_8_method_2_code 4 = .ok (.getfield 37, 3) := by decide +kernel
theorem d_So_rowOf_7 : decode prog_8_method_2_code 7 = .ok (.aload_n 0, 1) := by decide +kernel
theorem d_So_rowOf_8 : decode prog_8_method_2_code 8 = .ok (.getfield 24, 3) := by decide +kernel
theorem d_So_rowOf_11 : decode prog_8_method_2_code 11 = .ok (.getfield 42, 3) := by decide +kernel
theorem d_So_rowOf_14 : decode prog_8_method_2_code 14 = .ok (.iadd, 1) := by decide +kernel
theorem d_So_rowOf_15 : decode prog_8_method_2_code 15 = .ok (.istore_n 2, 1) := by decide +kernel
theorem d_So_rowOf_16 : decode prog_8_method_2_code 16 = .ok (.aload_n 0, 1) := by decide +kernel
theorem d_So_rowOf_17 : decode prog_8_method_2_code 17 = .ok (.getfield 16, 3) := by decide +kernel
theorem d_So_rowOf_20 : decode prog_8_method_2_code 20 = .ok (.iload_n 2, 1) := by decide +kernel
theorem d_So_rowOf_21 : decode prog_8_method_2_code 21 = .ok (.if_icmp .eq 12, 3) := by decide +kernel
theorem d_So_rowOf_24 : decode prog_8_method_2_code 24 = .ok (.aload_n 0, 1) := by decide +kernel
theorem d_So_rowOf_25 : decode prog_8_method_2_code 25 = .ok (.iload_n 2, 1) := by decide +kernel
theorem d_So_rowOf_26 : decode prog_8_method_2_code 26 = .ok (.putfield 16, 3) := by decide +kernel
theorem d_So_rowOf_29 : decode prog_8_method_2_code 29 = .ok (.aload_n 0, 1) := by decide +kernel
theorem d_So_rowOf_30 : decode prog_8_method_2_code 30 = .ok (.invokevirtual 45, 3) := by decide +kernel
theorem d_So_rowOf_33 : decode prog_8_method_2_code 33 = .ok (.aload_n 0, 1) := by decide +kernel
theorem d_So_rowOf_34 : decode prog_8_method_2_code 34 = .ok (.getfield 11, 3) := by decide +kernel
theorem d_So_rowOf_37 : decode prog_8_method_2_code 37 = .ok (.iload_n 1, 1) := by decide +kernel
theorem d_So_rowOf_38 : decode prog_8_method_2_code 38 = .ok (.aaload, 1) := by decide +kernel
theorem d_So_rowOf_39 : decode prog_8_method_2_code 39 = .ok (.areturn, 1) := by decide +kernel
def b_So_rowOf_33 (c0 : ra_Sp) (Z : ra_R) : ra_K := w_al 0 <| w_gr 5 3 <| w_il 1 <| w_rld 2 <| w_ar Z
def b_So_rowOf_24 (c0 : ra_Sp) (Z : ra_R) : ra_K := w_al 0 <| w_il 2 <| w_pi 5 4 <| w_al 0 <| w_cv c0 1 5 <| (b_So_rowOf_33 c0 Z)
def b_So_rowOf_0 (c0 : ra_Sp) (Z : ra_R) : ra_K := w_al 0 <| w_gr 5 0 <| w_gi 1 11 <| w_al 0 <| w_gr 5 1 <| w_gi 3 4 <| w_i2 (fun x y => x + y) <| w_is 2 <| w_al 0 <| w_gi 5 4 <| w_il 2 <| w_b2 (fun x y => x = y) (b_So_rowOf_33 c0 Z) (b_So_rowOf_24 c0 Z)
theorem o_So_rowOf_33 {X : ra_X} {p : Program} {l : Launch} {e : Env} {s : State} {m : MethodId} {args : Array Value} {below : List Frame} {meth : Method} {c : Code} {Z : ra_R} {c0 : ra_Sp}  (h0 : ra_MOK l X mi_So_tell c0) (F : ra_Fx X p rm_So_rowOf s m args c prog_8_method_2_code 3 cn_So) (hr : meth.sig.returnType = (some (.array .int))) (hlk : meth.locks = false) : ra_At X p l e rm_So_rowOf s m args below meth c 3 (MQ below (ra_Qc X Z) args s 0 0 (ra_A X)) (b_So_rowOf_33 c0 Z) 33 :=
  r_aload_n F d_So_rowOf_33 rfl <| r_getR F cg_So (j := 3) (by decide) rfl fl_So_11 d_So_rowOf_34 <| r_iload_n F d_So_rowOf_37 rfl <| r_aaloadI F d_So_rowOf_38 <| r_areturn F hr (Or.inr ⟨_, rfl⟩) hlk d_So_rowOf_39
theorem o_So_rowOf_24 {X : ra_X} {p : Program} {l : Launch} {e : Env} {s : State} {m : MethodId} {args : Array Value} {below : List Frame} {meth : Method} {c : Code} {Z : ra_R} {c0 : ra_Sp}  (h0 : ra_MOK l X mi_So_tell c0) (F : ra_Fx X p rm_So_rowOf s m args c prog_8_method_2_code 3 cn_So) (hr : meth.sig.returnType = (some (.array .int))) (hlk : meth.locks = false) : ra_At X p l e rm_So_rowOf s m args below meth c 3 (MQ below (ra_Qc X Z) args s 0 0 (ra_A X)) (b_So_rowOf_24 c0 Z) 24 :=
  r_aload_n F d_So_rowOf_24 rfl <| r_iload_n F d_So_rowOf_25 rfl <| r_putI F cg_So (j := 4) (by decide) rfl rfl rfl fl_So_16 d_So_rowOf_26 <| r_aload_n F d_So_rowOf_29 rfl <| r_callV F h0 (co_So_tell (by decide +kernel) (by decide +kernel)) ⟨rfl, by decide +kernel⟩ ⟨rfl, by decide⟩ ml_So_45 im_So_tell se_So_tell d_So_rowOf_30 <| (o_So_rowOf_33 h0 F hr hlk)
theorem o_So_rowOf_0 {X : ra_X} {p : Program} {l : Launch} {e : Env} {s : State} {m : MethodId} {args : Array Value} {below : List Frame} {meth : Method} {c : Code} {Z : ra_R} {c0 : ra_Sp}  (h0 : ra_MOK l X mi_So_tell c0) (F : ra_Fx X p rm_So_rowOf s m args c prog_8_method_2_code 3 cn_So) (hr : meth.sig.returnType = (some (.array .int))) (hlk : meth.locks = false) : ra_At X p l e rm_So_rowOf s m args below meth c 3 (MQ below (ra_Qc X Z) args s 0 0 (ra_A X)) (b_So_rowOf_0 c0 Z) 0 :=
  r_aload_n F d_So_rowOf_0 rfl <| r_getR F cg_So (j := 0) (by decide) rfl fl_So_20 d_So_rowOf_1 <| r_getI F cg_V (j := 11) (by decide) rfl fl_So_37 d_So_rowOf_4 <| r_aload_n F d_So_rowOf_7 rfl <| r_getR F cg_So (j := 1) (by decide) rfl fl_So_24 d_So_rowOf_8 <| r_getI F cg_Wt (j := 4) (by decide) rfl fl_So_42 d_So_rowOf_11 <| r_iadd F d_So_rowOf_14 <| r_istore_n F d_So_rowOf_15 rfl (by decide) <| r_aload_n F d_So_rowOf_16 rfl <| r_getI F cg_So (j := 4) (by decide) rfl fl_So_16 d_So_rowOf_17 <| r_iload_n F d_So_rowOf_20 rfl <| r_icmp_eq F d_So_rowOf_21 (by decide) (o_So_rowOf_33 h0 F hr hlk) (o_So_rowOf_24 h0 F hr hlk)
theorem g_So_rowOf {l : Launch} {X : ra_X} {c0 : ra_Sp}  (h0 : ra_MOK l X mi_So_tell c0) (sp : ra_Sp) (ve : ∀ as σ Z, ra_c1 as = true → as.length = 2 → sp as σ Z → b_So_rowOf_0 c0 Z (ra_pad 3 as) [] σ) : ra_MOK l X mi_So_rowOf sp := by
  refine ra_enter (k := fun Z as σ => b_So_rowOf_0 c0 Z) cn_So rfl (by decide +kernel) ⟨by decide +kernel, by decide +kernel⟩ (by decide +kernel) ?_ ve
  intro p e s m args below meth c Z as σ hsp F hr hlk
  exact o_So_rowOf_0 h0 F hr hlk

theorem d_R_behind_0 : decode prog_1_method_36_code 0 = .ok (.aload_n 0, 1) := by decide +kernel
theorem d_R_behind_1 : decode prog_1_method_36_code 1 = .ok (.iload_n 2, 1) := by decide +kernel
theorem d_R_behind_2 : decode prog_1_method_36_code 2 = .ok (.invokevirtual 96, 3) := by decide +kernel
theorem d_R_behind_5 : decode prog_1_method_36_code 5 = .ok (.ifCond .ne 18, 3) := by decide +kernel
theorem d_R_behind_8 : decode prog_1_method_36_code 8 = .ok (.iload_n 3, 1) := by decide +kernel
theorem d_R_behind_9 : decode prog_1_method_36_code 9 = .ok (.iconst 0, 1) := by decide +kernel
theorem d_R_behind_10 : decode prog_1_method_36_code 10 = .ok (.aload_n 0, 1) := by decide +kernel
theorem d_R_behind_11 : decode prog_1_method_36_code 11 = .ok (.getfield 19, 3) := by decide +kernel
theorem d_R_behind_14 : decode prog_1_method_36_code 14 = .ok (.getfield 149, 3) := by decide +kernel
theorem d_R_behind_17 : decode prog_1_method_36_code 17 = .ok (.invokestatic 73, 3) := by decide +kernel
theorem d_R_behind_20 : decode prog_1_method_36_code 20 = .ok (.ifCond .eq 6, 3) := by decide +kernel
theorem d_R_behind_23 : decode prog_1_method_36_code 23 = .ok (.bipush (-2), 2) := by decide +kernel
theorem d_R_behind_25 : decode prog_1_method_36_code 25 = .ok (.ireturn, 1) := by decide +kernel
theorem d_R_behind_26 : decode prog_1_method_36_code 26 = .ok (.aload_n 0, 1) := by decide +kernel
theorem d_R_behind_27 : decode prog_1_method_36_code 27 = .ok (.getfield 28, 3) := by decide +kernel
theorem d_R_behind_30 : decode prog_1_method_36_code 30 = .ok (.iload_n 1, 1) := by decide +kernel
theorem d_R_behind_31 : decode prog_1_method_36_code 31 = .ok (.invokevirtual 153, 3) := by decide +kernel
theorem d_R_behind_34 : decode prog_1_method_36_code 34 = .ok (.iload_n 3, 1) := by decide +kernel
theorem d_R_behind_35 : decode prog_1_method_36_code 35 = .ok (.bipush 8, 2) := by decide +kernel
theorem d_R_behind_37 : decode prog_1_method_36_code 37 = .ok (.imul, 1) := by decide +kernel
theorem d_R_behind_38 : decode prog_1_method_36_code 38 = .ok (.iload_n 2, 1) := by decide +kernel
theorem d_R_behind_39 : decode prog_1_method_36_code 39 = .ok (.iadd, 1) := by decide +kernel
theorem d_R_behind_40 : decode prog_1_method_36_code 40 = .ok (.iaload, 1) := by decide +kernel
theorem d_R_behind_41 : decode prog_1_method_36_code 41 = .ok (.ireturn, 1) := by decide +kernel
def b_R_behind_26 (c0 c1 c2 : ra_Sp) (Z : ra_R) : ra_K := w_al 0 <| w_gr 0 2 <| w_il 1 <| w_cv c2 2 5 <| w_il 3 <| w_c 8 <| w_i2 (fun x y => x * y) <| w_il 2 <| w_i2 (fun x y => x + y) <| w_ald <| w_ir Z
def b_R_behind_23 (c0 c1 c2 : ra_Sp) (Z : ra_R) : ra_K := w_c (-2) <| w_ir Z
def b_R_behind_8 (c0 c1 c2 : ra_Sp) (Z : ra_R) : ra_K := w_il 3 <| w_c 0 <| w_al 0 <| w_gr 0 1 <| w_gi 3 1 <| w_cs c1 3 <| w_b1 (fun x => x = 0) (b_R_behind_26 c0 c1 c2 Z) (b_R_behind_23 c0 c1 c2 Z)
def b_R_behind_0 (c0 c1 c2 : ra_Sp) (Z : ra_R) : ra_K := w_al 0 <| w_il 2 <| w_cv c0 2 0 <| w_b1 (fun x => x = 0) (b_R_behind_8 c0 c1 c2 Z) (b_R_behind_23 c0 c1 c2 Z)
theorem o_R_behind_26 {X : ra_X} {p : Program} {l : Launch} {e : Env} {s : State} {m : MethodId} {args : Array Value} {below : List Frame} {meth : Method} {c : Code} {Z : ra_R} {c0 c1 c2 : ra_Sp}  (h0 : ra_MOK l X mi_R_isNoHouse c0) (h1 : ra_MOK l X mi_R_isOutside c1) (h2 : ra_MOK l X mi_So_rowOf c2) (F : ra_Fx X p rm_R_behind s m args c prog_1_method_36_code 4 cn_R) (hr : meth.sig.returnType = (some .int)) (hlk : meth.locks = false) : ra_At X p l e rm_R_behind s m args below meth c 4 (MQ below (ra_Qc X Z) args s 0 0 (ra_A X)) (b_R_behind_26 c0 c1 c2 Z) 26 :=
  r_aload_n F d_R_behind_26 rfl <| r_getR F cg_R (j := 2) (by decide) rfl fl_R_28 d_R_behind_27 <| r_iload_n F d_R_behind_30 rfl <| r_callV F h2 (co_So_rowOf (by decide +kernel) (by decide +kernel)) ⟨rfl, by decide +kernel⟩ ⟨rfl, by decide⟩ ml_R_153 im_So_rowOf se_So_rowOf d_R_behind_31 <| r_iload_n F d_R_behind_34 rfl <| r_bipush F d_R_behind_35 (by decide) <| r_imul F d_R_behind_37 <| r_iload_n F d_R_behind_38 rfl <| r_iadd F d_R_behind_39 <| r_iaload F d_R_behind_40 <| r_ireturn F hr hlk d_R_behind_41
theorem o_R_behind_23 {X : ra_X} {p : Program} {l : Launch} {e : Env} {s : State} {m : MethodId} {args : Array Value} {below : List Frame} {meth : Method} {c : Code} {Z : ra_R} {c0 c1 c2 : ra_Sp}  (h0 : ra_MOK l X mi_R_isNoHouse c0) (h1 : ra_MOK l X mi_R_isOutside c1) (h2 : ra_MOK l X mi_So_rowOf c2) (F : ra_Fx X p rm_R_behind s m args c prog_1_method_36_code 4 cn_R) (hr : meth.sig.returnType = (some .int)) (hlk : meth.locks = false) : ra_At X p l e rm_R_behind s m args below meth c 4 (MQ below (ra_Qc X Z) args s 0 0 (ra_A X)) (b_R_behind_23 c0 c1 c2 Z) 23 :=
  r_bipush F d_R_behind_23 (by decide) <| r_ireturn F hr hlk d_R_behind_25
theorem o_R_behind_8 {X : ra_X} {p : Program} {l : Launch} {e : Env} {s : State} {m : MethodId} {args : Array Value} {below : List Frame} {meth : Method} {c : Code} {Z : ra_R} {c0 c1 c2 : ra_Sp}  (h0 : ra_MOK l X mi_R_isNoHouse c0) (h1 : ra_MOK l X mi_R_isOutside c1) (h2 : ra_MOK l X mi_So_rowOf c2) (F : ra_Fx X p rm_R_behind s m args c prog_1_method_36_code 4 cn_R) (hr : meth.sig.returnType = (some .int)) (hlk : meth.locks = false) : ra_At X p l e rm_R_behind s m args below meth c 4 (MQ below (ra_Qc X Z) args s 0 0 (ra_A X)) (b_R_behind_8 c0 c1 c2 Z) 8 :=
  r_iload_n F d_R_behind_8 rfl <| r_iconst F d_R_behind_9 (by decide) <| r_aload_n F d_R_behind_10 rfl <| r_getR F cg_R (j := 1) (by decide) rfl fl_R_19 d_R_behind_11 <| r_getI F cg_Wt (j := 1) (by decide) rfl fl_R_149 d_R_behind_14 <| r_callS F h1 (co_R_isOutside (by decide +kernel) (by decide +kernel)) ⟨rfl, by decide +kernel⟩ ml_R_73 st_R_isOutside d_R_behind_17 <| r_if_eq F d_R_behind_20 (by decide) (o_R_behind_26 h0 h1 h2 F hr hlk) (o_R_behind_23 h0 h1 h2 F hr hlk)
theorem o_R_behind_0 {X : ra_X} {p : Program} {l : Launch} {e : Env} {s : State} {m : MethodId} {args : Array Value} {below : List Frame} {meth : Method} {c : Code} {Z : ra_R} {c0 c1 c2 : ra_Sp}  (h0 : ra_MOK l X mi_R_isNoHouse c0) (h1 : ra_MOK l X mi_R_isOutside c1) (h2 : ra_MOK l X mi_So_rowOf c2) (F : ra_Fx X p rm_R_behind s m args c prog_1_method_36_code 4 cn_R) (hr : meth.sig.returnType = (some .int)) (hlk : meth.locks = false) : ra_At X p l e rm_R_behind s m args below meth c 4 (MQ below (ra_Qc X Z) args s 0 0 (ra_A X)) (b_R_behind_0 c0 c1 c2 Z) 0 :=
  r_aload_n F d_R_behind_0 rfl <| r_iload_n F d_R_behind_1 rfl <| r_callV F h0 (co_R_isNoHouse (by decide +kernel) (by decide +kernel)) ⟨rfl, by decide +kernel⟩ ⟨rfl, by decide⟩ ml_R_96 im_R_isNoHouse se_R_isNoHouse d_R_behind_2 <| r_if_ne F d_R_behind_5 (by decide) (o_R_behind_23 h0 h1 h2 F hr hlk) (o_R_behind_8 h0 h1 h2 F hr hlk)
theorem g_R_behind {l : Launch} {X : ra_X} {c0 c1 c2 : ra_Sp}  (h0 : ra_MOK l X mi_R_isNoHouse c0) (h1 : ra_MOK l X mi_R_isOutside c1) (h2 : ra_MOK l X mi_So_rowOf c2) (sp : ra_Sp) (ve : ∀ as σ Z, ra_c1 as = true → as.length = 4 → sp as σ Z → b_R_behind_0 c0 c1 c2 Z (ra_pad 4 as) [] σ) : ra_MOK l X mi_R_behind sp := by
  refine ra_enter (k := fun Z as σ => b_R_behind_0 c0 c1 c2 Z) cn_R rfl (by decide +kernel) ⟨by decide +kernel, by decide +kernel⟩ (by decide +kernel) ?_ ve
  intro p e s m args below meth c Z as σ hsp F hr hlk
  exact o_R_behind_0 h0 h1 h2 F hr hlk

theorem d_R_tiles_0 : decode prog_1_method_10_code 0 = .ok (.aload_n 0, 1) := by decide +kernel
theorem d_R_tiles_1 : decode prog_1_method_10_code 1 = .ok (.iconst 0, 1) := by decide +kernel
theorem d_R_tiles_2 : decode prog_1_method_10_code 2 = .ok (.iload_n 1, 1) := by decide +kernel
theorem d_R_tiles_3 : decode prog_1_method_10_code 3 = .ok (.iload_n 2, 1) := by decide +kernel
theorem d_R_tiles_4 : decode prog_1_method_10_code 4 = .ok (.invokevirtual 145, 3) := by decide +kernel
theorem d_R_tiles_7 : decode prog_1_method_10_code 7 = .ok (.ireturn, 1) := by decide +kernel
def b_R_tiles_0 (c0 : ra_Sp) (Z : ra_R) : ra_K := w_al 0 <| w_c 0 <| w_il 1 <| w_il 2 <| w_cv c0 4 0 <| w_ir Z
theorem o_R_tiles_0 {X : ra_X} {p : Program} {l : Launch} {e : Env} {s : State} {m : MethodId} {args : Array Value} {below : List Frame} {meth : Method} {c : Code} {Z : ra_R} {c0 : ra_Sp}  (h0 : ra_MOK l X mi_R_behind c0) (F : ra_Fx X p rm_R_tiles s m args c prog_1_method_10_code 3 cn_R) (hr : meth.sig.returnType = (some .int)) (hlk : meth.locks = false) : ra_At X p l e rm_R_tiles s m args below meth c 3 (MQ below (ra_Qc X Z) args s 0 0 (ra_A X)) (b_R_tiles_0 c0 Z) 0 :=
  r_aload_n F d_R_tiles_0 rfl <| r_iconst F d_R_tiles_1 (by decide) <| r_iload_n F d_R_tiles_2 rfl <| r_iload_n F d_R_tiles_3 rfl <| r_callV F h0 (co_R_behind (by decide +kernel) (by decide +kernel)) ⟨rfl, by decide +kernel⟩ ⟨rfl, by decide⟩ ml_R_145 im_R_behind se_R_behind d_R_tiles_4 <| r_ireturn F hr hlk d_R_tiles_7
theorem g_R_tiles {l : Launch} {X : ra_X} {c0 : ra_Sp}  (h0 : ra_MOK l X mi_R_behind c0) (sp : ra_Sp) (ve : ∀ as σ Z, ra_c1 as = true → as.length = 3 → sp as σ Z → b_R_tiles_0 c0 Z (ra_pad 3 as) [] σ) : ra_MOK l X mi_R_tiles sp := by
  refine ra_enter (k := fun Z as σ => b_R_tiles_0 c0 Z) cn_R rfl (by decide +kernel) ⟨by decide +kernel, by decide +kernel⟩ (by decide +kernel) ?_ ve
  intro p e s m args below meth c Z as σ hsp F hr hlk
  exact o_R_tiles_0 h0 F hr hlk

theorem d_R_purse_0 : decode prog_1_method_11_code 0 = .ok (.aload_n 0, 1) := by decide +kernel
theorem d_R_purse_1 : decode prog_1_method_11_code 1 = .ok (.iconst 1, 1) := by decide +kernel
theorem d_R_purse_2 : decode prog_1_method_11_code 2 = .ok (.iload_n 1, 1) := by decide +kernel
theorem d_R_purse_3 : decode prog_1_method_11_code 3 = .ok (.iload_n 2, 1) := by decide +kernel
theorem d_R_purse_4 : decode prog_1_method_11_code 4 = .ok (.invokevirtual 145, 3) := by decide +kernel
theorem d_R_purse_7 : decode prog_1_method_11_code 7 = .ok (.ireturn, 1) := by decide +kernel
def b_R_purse_0 (c0 : ra_Sp) (Z : ra_R) : ra_K := w_al 0 <| w_c 1 <| w_il 1 <| w_il 2 <| w_cv c0 4 0 <| w_ir Z
theorem o_R_purse_0 {X : ra_X} {p : Program} {l : Launch} {e : Env} {s : State} {m : MethodId} {args : Array Value} {below : List Frame} {meth : Method} {c : Code} {Z : ra_R} {c0 : ra_Sp}  (h0 : ra_MOK l X mi_R_behind c0) (F : ra_Fx X p rm_R_purse s m args c prog_1_method_11_code 3 cn_R) (hr : meth.sig.returnType = (some .int)) (hlk : meth.locks = false) : ra_At X p l e rm_R_purse s m args below meth c 3 (MQ below (ra_Qc X Z) args s 0 0 (ra_A X)) (b_R_purse_0 c0 Z) 0 :=
  r_aload_n F d_R_purse_0 rfl <| r_iconst F d_R_purse_1 (by decide) <| r_iload_n F d_R_purse_2 rfl <| r_iload_n F d_R_purse_3 rfl <| r_callV F h0 (co_R_behind (by decide +kernel) (by decide +kernel)) ⟨rfl, by decide +kernel⟩ ⟨rfl, by decide⟩ ml_R_145 im_R_behind se_R_behind d_R_purse_4 <| r_ireturn F hr hlk d_R_purse_7
theorem g_R_purse {l : Launch} {X : ra_X} {c0 : ra_Sp}  (h0 : ra_MOK l X mi_R_behind c0) (sp : ra_Sp) (ve : ∀ as σ Z, ra_c1 as = true → as.length = 3 → sp as σ Z → b_R_purse_0 c0 Z (ra_pad 3 as) [] σ) : ra_MOK l X mi_R_purse sp := by
  refine ra_enter (k := fun Z as σ => b_R_purse_0 c0 Z) cn_R rfl (by decide +kernel) ⟨by decide +kernel, by decide +kernel⟩ (by decide +kernel) ?_ ve
  intro p e s m args below meth c Z as σ hsp F hr hlk
  exact o_R_purse_0 h0 F hr hlk

theorem d_R_harm_0 : decode prog_1_method_12_code 0 = .ok (.aload_n 0, 1) := by decide +kernel
theorem d_R_harm_1 : decode prog_1_method_12_code 1 = .ok (.iconst 2, 1) := by decide +kernel
theorem d_R_harm_2 : decode prog_1_method_12_code 2 = .ok (.iload_n 1, 1) := by decide +kernel
theorem d_R_harm_3 : decode prog_1_method_12_code 3 = .ok (.iload_n 2, 1) := by decide +kernel
theorem d_R_harm_4 : decode prog_1_method_12_code 4 = .ok (.invokevirtual 145, 3) := by decide +kernel
theorem d_R_harm_7 : decode prog_1_method_12_code 7 = .ok (.ireturn, 1) := by decide +kernel
def b_R_harm_0 (c0 : ra_Sp) (Z : ra_R) : ra_K := w_al 0 <| w_c 2 <| w_il 1 <| w_il 2 <| w_cv c0 4 0 <| w_ir Z
theorem o_R_harm_0 {X : ra_X} {p : Program} {l : Launch} {e : Env} {s : State} {m : MethodId} {args : Array Value} {below : List Frame} {meth : Method} {c : Code} {Z : ra_R} {c0 : ra_Sp}  (h0 : ra_MOK l X mi_R_behind c0) (F : ra_Fx X p rm_R_harm s m args c prog_1_method_12_code 3 cn_R) (hr : meth.sig.returnType = (some .int)) (hlk : meth.locks = false) : ra_At X p l e rm_R_harm s m args below meth c 3 (MQ below (ra_Qc X Z) args s 0 0 (ra_A X)) (b_R_harm_0 c0 Z) 0 :=
  r_aload_n F d_R_harm_0 rfl <| r_iconst F d_R_harm_1 (by decide) <| r_iload_n F d_R_harm_2 rfl <| r_iload_n F d_R_harm_3 rfl <| r_callV F h0 (co_R_behind (by decide +kernel) (by decide +kernel)) ⟨rfl, by decide +kernel⟩ ⟨rfl, by decide⟩ ml_R_145 im_R_behind se_R_behind d_R_harm_4 <| r_ireturn F hr hlk d_R_harm_7
theorem g_R_harm {l : Launch} {X : ra_X} {c0 : ra_Sp}  (h0 : ra_MOK l X mi_R_behind c0) (sp : ra_Sp) (ve : ∀ as σ Z, ra_c1 as = true → as.length = 3 → sp as σ Z → b_R_harm_0 c0 Z (ra_pad 3 as) [] σ) : ra_MOK l X mi_R_harm sp := by
  refine ra_enter (k := fun Z as σ => b_R_harm_0 c0 Z) cn_R rfl (by decide +kernel) ⟨by decide +kernel, by decide +kernel⟩ (by decide +kernel) ?_ ve
  intro p e s m args below meth c Z as σ hsp F hr hlk
  exact o_R_harm_0 h0 F hr hlk

theorem d_R_laid_0 : decode prog_1_method_13_code 0 = .ok (.aload_n 0, 1) := by decide +kernel
theorem d_R_laid_1 : decode prog_1_method_13_code 1 = .ok (.iconst 3, 1) := by decide +kernel
theorem d_R_laid_2 : decode prog_1_method_13_code 2 = .ok (.iload_n 1, 1) := by decide +kernel
theorem d_R_laid_3 : decode prog_1_method_13_code 3 = .ok (.iload_n 2, 1) := by decide +kernel
theorem d_R_laid_4 : decode prog_1_method_13_code 4 = .ok (.invokevirtual 145, 3) := by decide +kernel
theorem d_R_laid_7 : decode prog_1_method_13_code 7 = .ok (.ireturn, 1) := by decide +kernel
def b_R_laid_0 (c0 : ra_Sp) (Z : ra_R) : ra_K := w_al 0 <| w_c 3 <| w_il 1 <| w_il 2 <| w_cv c0 4 0 <| w_ir Z
theorem o_R_laid_0 {X : ra_X} {p : Program} {l : Launch} {e : Env} {s : State} {m : MethodId} {args : Array Value} {below : List Frame} {meth : Method} {c : Code} {Z : ra_R} {c0 : ra_Sp}  (h0 : ra_MOK l X mi_R_behind c0) (F : ra_Fx X p rm_R_laid s m args c prog_1_method_13_code 3 cn_R) (hr : meth.sig.returnType = (some .int)) (hlk : meth.locks = false) : ra_At X p l e rm_R_laid s m args below meth c 3 (MQ below (ra_Qc X Z) args s 0 0 (ra_A X)) (b_R_laid_0 c0 Z) 0 :=
  r_aload_n F d_R_laid_0 rfl <| r_iconst F d_R_laid_1 (by decide) <| r_iload_n F d_R_laid_2 rfl <| r_iload_n F d_R_laid_3 rfl <| r_callV F h0 (co_R_behind (by decide +kernel) (by decide +kernel)) ⟨rfl, by decide +kernel⟩ ⟨rfl, by decide⟩ ml_R_145 im_R_behind se_R_behind d_R_laid_4 <| r_ireturn F hr hlk d_R_laid_7
theorem g_R_laid {l : Launch} {X : ra_X} {c0 : ra_Sp}  (h0 : ra_MOK l X mi_R_behind c0) (sp : ra_Sp) (ve : ∀ as σ Z, ra_c1 as = true → as.length = 3 → sp as σ Z → b_R_laid_0 c0 Z (ra_pad 3 as) [] σ) : ra_MOK l X mi_R_laid sp := by
  refine ra_enter (k := fun Z as σ => b_R_laid_0 c0 Z) cn_R rfl (by decide +kernel) ⟨by decide +kernel, by decide +kernel⟩ (by decide +kernel) ?_ ve
  intro p e s m args below meth c Z as σ hsp F hr hlk
  exact o_R_laid_0 h0 F hr hlk

theorem d_R_all_0 : decode prog_1_method_14_code 0 = .ok (.iload_n 1, 1) := by decide +kernel
theorem d_R_all_1 : decode prog_1_method_14_code 1 = .ok (.iconst 0, 1) := by decide +kernel
theorem d_R_all_2 : decode prog_1_method_14_code 2 = .ok (.aload_n 0, 1) := by decide +kernel
theorem d_R_all_3 : decode prog_1_method_14_code 3 = .ok (.getfield 19, 3) := by decide +kernel
theorem d_R_all_6 : decode prog_1_method_14_code 6 = .ok (.getfield 149, 3) := by decide +kernel
theorem d_R_all_9 : decode prog_1_method_14_code 9 = .ok (.invokestatic 73, 3) := by decide +kernel
theorem d_R_all_12 : decode prog_1_method_14_code 12 = .ok (.ifCond .ne 12, 3) := by decide +kernel
theorem d_R_all_15 : decode prog_1_method_14_code 15 = .ok (.iload_n 2, 1) := by decide +kernel
theorem d_R_all_16 : decode prog_1_method_14_code 16 = .ok (.iconst 0, 1) := by decide +kernel
theorem d_R_all_17 : decode prog_1_method_14_code 17 = .ok (.iconst 3, 1) := by decide +kernel
theorem d_R_all_18 : decode prog_1_method_14_code 18 = .ok (.invokestatic 73, 3) := by decide +kernel
theorem d_R_all_21 : decode prog_1_method_14_code 21 = .ok (.ifCond .eq 6, 3) := by decide +kernel
theorem d_R_all_24 : decode prog_1_method_14_code 24 = .ok (.bipush (-2), 2) := by decide +kernel
theorem d_R_all_26 : decode prog_1_method_14_code 26 = .ok (.ireturn, 1) := by decide +kernel
theorem d_R_all_27 : decode prog_1_method_14_code 27 = .ok (.iconst 0, 1) := by decide +kernel
theorem d_R_all_28 : decode prog_1_method_14_code 28 = .ok (.istore_n 3, 1) := by decide +kernel
theorem d_R_all_29 : decode prog_1_method_14_code 29 = .ok (.iconst 0, 1) := by decide +kernel
theorem d_R_all_30 : decode prog_1_method_14_code 30 = .ok (.istore 4, 2) := by decide +kernel
theorem d_R_all_32 : decode prog_1_method_14_code 32 = .ok (.iload 4, 2) := by decide +kernel
theorem d_R_all_34 : decode prog_1_method_14_code 34 = .ok (.aload_n 0, 1) := by decide +kernel
theorem d_R_all_35 : decode prog_1_method_14_code 35 = .ok (.getfield 12, 3) := by decide +kernel
theorem d_R_all_38 : decode prog_1_method_14_code 38 = .ok (.getfield 152, 3) := by decide +kernel
theorem d_R_all_41 : decode prog_1_method_14_code 41 = .ok (.if_icmp .ge 28, 3) := by decide +kernel
theorem d_R_all_44 : decode prog_1_method_14_code 44 = .ok (.iload_n 3, 1) := by decide +kernel
theorem d_R_all_45 : decode prog_1_method_14_code 45 = .ok (.aload_n 0, 1) := by decide +kernel
theorem d_R_all_46 : decode prog_1_method_14_code 46 = .ok (.getfield 28, 3) := by decide +kernel
theorem d_R_all_49 : decode prog_1_method_14_code 49 = .ok (.iload_n 2, 1) := by decide +kernel
theorem d_R_all_50 : decode prog_1_method_14_code 50 = .ok (.invokevirtual 153, 3) := by decide +kernel
theorem d_R_all_53 : decode prog_1_method_14_code 53 = .ok (.iload_n 1, 1) := by decide +kernel
theorem d_R_all_54 : decode prog_1_method_14_code 54 = .ok (.bipush 8, 2) := by decide +kernel
theorem d_R_all_56 : decode prog_1_method_14_code 56 = .ok (.imul, 1) := by decide +kernel
theorem d_R_all_57 : decode prog_1_method_14_code 57 = .ok (.iload 4, 2) := by decide +kernel
theorem d_R_all_59 : decode prog_1_method_14_code 59 = .ok (.iadd, 1) := by decide +kernel
theorem d_R_all_60 : decode prog_1_method_14_code 60 = .ok (.iaload, 1) := by decide +kernel
theorem d_R_all_61 : decode prog_1_method_14_code 61 = .ok (.iadd, 1) := by decide +kernel
theorem d_R_all_62 : decode prog_1_method_14_code 62 = .ok (.istore_n 3, 1) := by decide +kernel
theorem d_R_all_63 : decode prog_1_method_14_code 63 = .ok (.iinc 4 1, 3) := by decide +kernel
theorem d_R_all_66 : decode prog_1_method_14_code 66 = .ok (.goto (-34), 3) := by decide +kernel
theorem d_R_all_69 : decode prog_1_method_14_code 69 = .ok (.iload_n 3, 1) := by decide +kernel
theorem d_R_all_70 : decode prog_1_method_14_code 70 = .ok (.ireturn, 1) := by decide +kernel
def b_R_all_69 (c0 c1 : ra_Sp) (I : Nat → ra_K) (Z : ra_R) : ra_K := w_il 3 <| w_ir Z
def b_R_all_44 (c0 c1 : ra_Sp) (I : Nat → ra_K) (Z : ra_R) : ra_K := w_il 3 <| w_al 0 <| w_gr 0 2 <| w_il 2 <| w_cv c1 2 5 <| w_il 1 <| w_c 8 <| w_i2 (fun x y => x * y) <| w_il 4 <| w_i2 (fun x y => x + y) <| w_ald <| w_i2 (fun x y => x + y) <| w_is 3 <| w_inc 4 1 <| (I 32)
def b_R_all_32 (c0 c1 : ra_Sp) (I : Nat → ra_K) (Z : ra_R) : ra_K := w_il 4 <| w_al 0 <| w_gr 0 0 <| w_gi 1 8 <| w_b2 (fun x y => y ≤ x) (b_R_all_69 c0 c1 I Z) (b_R_all_44 c0 c1 I Z)
def b_R_all_27 (c0 c1 : ra_Sp) (I : Nat → ra_K) (Z : ra_R) : ra_K := w_c 0 <| w_is 3 <| w_c 0 <| w_is 4 <| (I 32)
def b_R_all_24 (c0 c1 : ra_Sp) (I : Nat → ra_K) (Z : ra_R) : ra_K := w_c (-2) <| w_ir Z
def b_R_all_15 (c0 c1 : ra_Sp) (I : Nat → ra_K) (Z : ra_R) : ra_K := w_il 2 <| w_c 0 <| w_c 3 <| w_cs c0 3 <| w_b1 (fun x => x = 0) (b_R_all_27 c0 c1 I Z) (b_R_all_24 c0 c1 I Z)
def b_R_all_0 (c0 c1 : ra_Sp) (I : Nat → ra_K) (Z : ra_R) : ra_K := w_il 1 <| w_c 0 <| w_al 0 <| w_gr 0 1 <| w_gi 3 1 <| w_cs c0 3 <| w_b1 (fun x => x = 0) (b_R_all_15 c0 c1 I Z) (b_R_all_24 c0 c1 I Z)
theorem o_R_all_69 {X : ra_X} {p : Program} {l : Launch} {e : Env} {s : State} {m : MethodId} {args : Array Value} {below : List Frame} {meth : Method} {c : Code} {Z : ra_R} {c0 c1 : ra_Sp}  (h0 : ra_MOK l X mi_R_isOutside c0) (h1 : ra_MOK l X mi_So_rowOf c1) (F : ra_Fx X p rm_R_all s m args c prog_1_method_14_code 5 cn_R) (hr : meth.sig.returnType = (some .int)) (hlk : meth.locks = false) {I : Nat → ra_K} (hI : ∀ t ∈ [32], ra_At X p l e rm_R_all s m args below meth c 5 (MQ below (ra_Qc X Z) args s 0 0 (ra_A X)) (I t) t) : ra_At X p l e rm_R_all s m args below meth c 5 (MQ below (ra_Qc X Z) args s 0 0 (ra_A X)) (b_R_all_69 c0 c1 I Z) 69 :=
  r_iload_n F d_R_all_69 rfl <| r_ireturn F hr hlk d_R_all_70
theorem o_R_all_44 {X : ra_X} {p : Program} {l : Launch} {e : Env} {s : State} {m : MethodId} {args : Array Value} {below : List Frame} {meth : Method} {c : Code} {Z : ra_R} {c0 c1 : ra_Sp}  (h0 : ra_MOK l X mi_R_isOutside c0) (h1 : ra_MOK l X mi_So_rowOf c1) (F : ra_Fx X p rm_R_all s m args c prog_1_method_14_code 5 cn_R) (hr : meth.sig.returnType = (some .int)) (hlk : meth.locks = false) {I : Nat → ra_K} (hI : ∀ t ∈ [32], ra_At X p l e rm_R_all s m args below meth c 5 (MQ below (ra_Qc X Z) args s 0 0 (ra_A X)) (I t) t) : ra_At X p l e rm_R_all s m args below meth c 5 (MQ below (ra_Qc X Z) args s 0 0 (ra_A X)) (b_R_all_44 c0 c1 I Z) 44 :=
  r_iload_n F d_R_all_44 rfl <| r_aload_n F d_R_all_45 rfl <| r_getR F cg_R (j := 2) (by decide) rfl fl_R_28 d_R_all_46 <| r_iload_n F d_R_all_49 rfl <| r_callV F h1 (co_So_rowOf (by decide +kernel) (by decide +kernel)) ⟨rfl, by decide +kernel⟩ ⟨rfl, by decide⟩ ml_R_153 im_So_rowOf se_So_rowOf d_R_all_50 <| r_iload_n F d_R_all_53 rfl <| r_bipush F d_R_all_54 (by decide) <| r_imul F d_R_all_56 <| r_iload F d_R_all_57 <| r_iadd F d_R_all_59 <| r_iaload F d_R_all_60 <| r_iadd F d_R_all_61 <| r_istore_n F d_R_all_62 rfl (by decide) <| r_iinc F d_R_all_63 (by decide) (by decide) <| r_goto F d_R_all_66 (by decide) (hI 32 (by decide))
theorem o_R_all_32 {X : ra_X} {p : Program} {l : Launch} {e : Env} {s : State} {m : MethodId} {args : Array Value} {below : List Frame} {meth : Method} {c : Code} {Z : ra_R} {c0 c1 : ra_Sp}  (h0 : ra_MOK l X mi_R_isOutside c0) (h1 : ra_MOK l X mi_So_rowOf c1) (F : ra_Fx X p rm_R_all s m args c prog_1_method_14_code 5 cn_R) (hr : meth.sig.returnType = (some .int)) (hlk : meth.locks = false) {I : Nat → ra_K} (hI : ∀ t ∈ [32], ra_At X p l e rm_R_all s m args below meth c 5 (MQ below (ra_Qc X Z) args s 0 0 (ra_A X)) (I t) t) : ra_At X p l e rm_R_all s m args below meth c 5 (MQ below (ra_Qc X Z) args s 0 0 (ra_A X)) (b_R_all_32 c0 c1 I Z) 32 :=
  r_iload F d_R_all_32 <| r_aload_n F d_R_all_34 rfl <| r_getR F cg_R (j := 0) (by decide) rfl fl_R_12 d_R_all_35 <| r_getI F cg_V (j := 8) (by decide) rfl fl_R_152 d_R_all_38 <| r_icmp_ge F d_R_all_41 (by decide) (o_R_all_69 h0 h1 F hr hlk hI) (o_R_all_44 h0 h1 F hr hlk hI)
theorem o_R_all_27 {X : ra_X} {p : Program} {l : Launch} {e : Env} {s : State} {m : MethodId} {args : Array Value} {below : List Frame} {meth : Method} {c : Code} {Z : ra_R} {c0 c1 : ra_Sp}  (h0 : ra_MOK l X mi_R_isOutside c0) (h1 : ra_MOK l X mi_So_rowOf c1) (F : ra_Fx X p rm_R_all s m args c prog_1_method_14_code 5 cn_R) (hr : meth.sig.returnType = (some .int)) (hlk : meth.locks = false) {I : Nat → ra_K} (hI : ∀ t ∈ [32], ra_At X p l e rm_R_all s m args below meth c 5 (MQ below (ra_Qc X Z) args s 0 0 (ra_A X)) (I t) t) : ra_At X p l e rm_R_all s m args below meth c 5 (MQ below (ra_Qc X Z) args s 0 0 (ra_A X)) (b_R_all_27 c0 c1 I Z) 27 :=
  r_iconst F d_R_all_27 (by decide) <| r_istore_n F d_R_all_28 rfl (by decide) <| r_iconst F d_R_all_29 (by decide) <| r_istore F d_R_all_30 (by decide) <| (hI 32 (by decide))
theorem o_R_all_24 {X : ra_X} {p : Program} {l : Launch} {e : Env} {s : State} {m : MethodId} {args : Array Value} {below : List Frame} {meth : Method} {c : Code} {Z : ra_R} {c0 c1 : ra_Sp}  (h0 : ra_MOK l X mi_R_isOutside c0) (h1 : ra_MOK l X mi_So_rowOf c1) (F : ra_Fx X p rm_R_all s m args c prog_1_method_14_code 5 cn_R) (hr : meth.sig.returnType = (some .int)) (hlk : meth.locks = false) {I : Nat → ra_K} (hI : ∀ t ∈ [32], ra_At X p l e rm_R_all s m args below meth c 5 (MQ below (ra_Qc X Z) args s 0 0 (ra_A X)) (I t) t) : ra_At X p l e rm_R_all s m args below meth c 5 (MQ below (ra_Qc X Z) args s 0 0 (ra_A X)) (b_R_all_24 c0 c1 I Z) 24 :=
  r_bipush F d_R_all_24 (by decide) <| r_ireturn F hr hlk d_R_all_26
theorem o_R_all_15 {X : ra_X} {p : Program} {l : Launch} {e : Env} {s : State} {m : MethodId} {args : Array Value} {below : List Frame} {meth : Method} {c : Code} {Z : ra_R} {c0 c1 : ra_Sp}  (h0 : ra_MOK l X mi_R_isOutside c0) (h1 : ra_MOK l X mi_So_rowOf c1) (F : ra_Fx X p rm_R_all s m args c prog_1_method_14_code 5 cn_R) (hr : meth.sig.returnType = (some .int)) (hlk : meth.locks = false) {I : Nat → ra_K} (hI : ∀ t ∈ [32], ra_At X p l e rm_R_all s m args below meth c 5 (MQ below (ra_Qc X Z) args s 0 0 (ra_A X)) (I t) t) : ra_At X p l e rm_R_all s m args below meth c 5 (MQ below (ra_Qc X Z) args s 0 0 (ra_A X)) (b_R_all_15 c0 c1 I Z) 15 :=
  r_iload_n F d_R_all_15 rfl <| r_iconst F d_R_all_16 (by decide) <| r_iconst F d_R_all_17 (by decide) <| r_callS F h0 (co_R_isOutside (by decide +kernel) (by decide +kernel)) ⟨rfl, by decide +kernel⟩ ml_R_73 st_R_isOutside d_R_all_18 <| r_if_eq F d_R_all_21 (by decide) (o_R_all_27 h0 h1 F hr hlk hI) (o_R_all_24 h0 h1 F hr hlk hI)
theorem o_R_all_0 {X : ra_X} {p : Program} {l : Launch} {e : Env} {s : State} {m : MethodId} {args : Array Value} {below : List Frame} {meth : Method} {c : Code} {Z : ra_R} {c0 c1 : ra_Sp}  (h0 : ra_MOK l X mi_R_isOutside c0) (h1 : ra_MOK l X mi_So_rowOf c1) (F : ra_Fx X p rm_R_all s m args c prog_1_method_14_code 5 cn_R) (hr : meth.sig.returnType = (some .int)) (hlk : meth.locks = false) {I : Nat → ra_K} (hI : ∀ t ∈ [32], ra_At X p l e rm_R_all s m args below meth c 5 (MQ below (ra_Qc X Z) args s 0 0 (ra_A X)) (I t) t) : ra_At X p l e rm_R_all s m args below meth c 5 (MQ below (ra_Qc X Z) args s 0 0 (ra_A X)) (b_R_all_0 c0 c1 I Z) 0 :=
  r_iload_n F d_R_all_0 rfl <| r_iconst F d_R_all_1 (by decide) <| r_aload_n F d_R_all_2 rfl <| r_getR F cg_R (j := 1) (by decide) rfl fl_R_19 d_R_all_3 <| r_getI F cg_Wt (j := 1) (by decide) rfl fl_R_149 d_R_all_6 <| r_callS F h0 (co_R_isOutside (by decide +kernel) (by decide +kernel)) ⟨rfl, by decide +kernel⟩ ml_R_73 st_R_isOutside d_R_all_9 <| r_if_ne F d_R_all_12 (by decide) (o_R_all_24 h0 h1 F hr hlk hI) (o_R_all_15 h0 h1 F hr hlk hI)
theorem g_R_all {l : Launch} {X : ra_X} {c0 c1 : ra_Sp}  (h0 : ra_MOK l X mi_R_isOutside c0) (h1 : ra_MOK l X mi_So_rowOf c1) (sp : ra_Sp) (I : ra_R → List Value → ra_St → Nat → ra_M → ra_K) (ve : ∀ as σ Z, ra_c1 as = true → as.length = 3 → sp as σ Z → b_R_all_0 c0 c1 (ra_I (I Z as σ)) Z (ra_pad 5 as) [] σ) (v32 : ∀ as σ Z, sp as σ Z → ∀ μ L S σ1, I Z as σ 32 μ L S σ1 → b_R_all_32 c0 c1 (ra_J (I Z as σ) μ) Z L S σ1) : ra_MOK l X mi_R_all sp := by
  refine ra_enter (k := fun Z as σ => b_R_all_0 c0 c1 (ra_I (I Z as σ)) Z) cn_R rfl (by decide +kernel) ⟨by decide +kernel, by decide +kernel⟩ (by decide +kernel) ?_ ve
  intro p e s m args below meth c Z as σ hsp F hr hlk
  refine o_R_all_0 h0 h1 F hr hlk (ra_cuts (b := fun t J => if t = 32 then b_R_all_32 c0 c1 J Z else fun _ _ _ => False) ?_ ?_)
  · intro t ht J hJ
    simp only [List.mem_cons, List.not_mem_nil, or_false] at ht
    rcases ht with rfl
    · exact o_R_all_32 h0 h1 F hr hlk hJ
  · intro t ht μ L S σ1 hI
    simp only [List.mem_cons, List.not_mem_nil, or_false] at ht
    rcases ht with rfl
    · exact v32 as σ Z hsp μ L S σ1 hI

theorem d_J_bitCount_0 : decode prog_15_method_49_code 0 = .ok (.iload_n 0, 1) := by decide +kernel
theorem d_J_bitCount_1 : decode prog_15_method_49_code 1 = .ok (.iload_n 0, 1) := by decide +kernel
theorem d_J_bitCount_2 : decode prog_15_method_49_code 2 = .ok (.iconst 1, 1) := by decide +kernel
theorem d_J_bitCount_3 : decode prog_15_method_49_code 3 = .ok (.iushr, 1) := by decide +kernel
theorem d_J_bitCount_4 : decode prog_15_method_49_code 4 = .ok (.ldc_w 265, 3) := by decide +kernel
theorem d_J_bitCount_7 : decode prog_15_method_49_code 7 = .ok (.iand, 1) := by decide +kernel
theorem d_J_bitCount_8 : decode prog_15_method_49_code 8 = .ok (.isub, 1) := by decide +kernel
theorem d_J_bitCount_9 : decode prog_15_method_49_code 9 = .ok (.istore_n 0, 1) := by decide +kernel
theorem d_J_bitCount_10 : decode prog_15_method_49_code 10 = .ok (.iload_n 0, 1) := by decide +kernel
theorem d_J_bitCount_11 : decode prog_15_method_49_code 11 = .ok (.ldc_w 266, 3) := by decide +kernel
theorem d_J_bitCount_14 : decode prog_15_method_49_code 14 = .ok (.iand, 1) := by decide +kernel
theorem d_J_bitCount_15 : decode prog_15_method_49_code 15 = .ok (.iload_n 0, 1) := by decide +kernel
theorem d_J_bitCount_16 : decode prog_15_method_49_code 16 = .ok (.iconst 2, 1) := by decide +kernel
theorem d_J_bitCount_17 : decode prog_15_method_49_code 17 = .ok (.iushr, 1) := by decide +kernel
theorem d_J_bitCount_18 : decode prog_15_method_49_code 18 = .ok (.ldc_w 266, 3) := by decide +kernel
theorem d_J_bitCount_21 : decode prog_15_method_49_code 21 = .ok (.iand, 1) := by decide +kernel
theorem d_J_bitCount_22 : decode prog_15_method_49_code 22 = .ok (.iadd, 1) := by decide +kernel
theorem d_J_bitCount_23 : decode prog_15_method_49_code 23 = .ok (.istore_n 0, 1) := by decide +kernel
theorem d_J_bitCount_24 : decode prog_15_method_49_code 24 = .ok (.iload_n 0, 1) := by decide +kernel
theorem d_J_bitCount_25 : decode prog_15_method_49_code 25 = .ok (.iload_n 0, 1) := by decide +kernel
theorem d_J_bitCount_26 : decode prog_15_method_49_code 26 = .ok (.iconst 4, 1) := by decide +kernel
theorem d_J_bitCount_27 : decode prog_15_method_49_code 27 = .ok (.iushr, 1) := by decide +kernel
theorem d_J_bitCount_28 : decode prog_15_method_49_code 28 = .ok (.iadd, 1) := by decide +kernel
theorem d_J_bitCount_29 : decode prog_15_method_49_code 29 = .ok (.ldc_w 267, 3) := by decide +kernel
theorem d_J_bitCount_32 : decode prog_15_method_49_code 32 = .ok (.iand, 1) := by decide +kernel
theorem d_J_bitCount_33 : decode prog_15_method_49_code 33 = .ok (.istore_n 0, 1) := by decide +kernel
theorem d_J_bitCount_34 : decode prog_15_method_49_code 34 = .ok (.iload_n 0, 1) := by decide +kernel
theorem d_J_bitCount_35 : decode prog_15_method_49_code 35 = .ok (.iload_n 0, 1) := by decide +kernel
theorem d_J_bitCount_36 : decode prog_15_method_49_code 36 = .ok (.bipush 8, 2) := by decide +kernel
theorem d_J_bitCount_38 : decode prog_15_method_49_code 38 = .ok (.iushr, 1) := by decide +kernel
theorem d_J_bitCount_39 : decode prog_15_method_49_code 39 = .ok (.iadd, 1) := by decide +kernel
theorem d_J_bitCount_40 : decode prog_15_method_49_code 40 = .ok (.istore_n 0, 1) := by decide +kernel
theorem d_J_bitCount_41 : decode prog_15_method_49_code 41 = .ok (.iload_n 0, 1) := by decide +kernel
theorem d_J_bitCount_42 : decode prog_15_method_49_code 42 = .ok (.iload_n 0, 1) := by decide +kernel
theorem d_J_bitCount_43 : decode prog_15_method_49_code 43 = .ok (.bipush 16, 2) := by decide +kernel
theorem d_J_bitCount_45 : decode prog_15_method_49_code 45 = .ok (.iushr, 1) := by decide +kernel
theorem d_J_bitCount_46 : decode prog_15_method_49_code 46 = .ok (.iadd, 1) := by decide +kernel
theorem d_J_bitCount_47 : decode prog_15_method_49_code 47 = .ok (.istore_n 0, 1) := by decide +kernel
theorem d_J_bitCount_48 : decode prog_15_method_49_code 48 = .ok (.iload_n 0, 1) := by decide +kernel
theorem d_J_bitCount_49 : decode prog_15_method_49_code 49 = .ok (.bipush 63, 2) := by decide +kernel
theorem d_J_bitCount_51 : decode prog_15_method_49_code 51 = .ok (.iand, 1) := by decide +kernel
theorem d_J_bitCount_52 : decode prog_15_method_49_code 52 = .ok (.ireturn, 1) := by decide +kernel
def b_J_bitCount_0 (Z : ra_R) : ra_K := w_il 0 <| w_il 0 <| w_c 1 <| w_i2 (fun x y => (x.toUInt32 >>> (y.toUInt32 &&& Int32.toUInt32 31)).toInt32) <| w_c 1431655765 <| w_i2 (fun x y => x &&& y) <| w_i2 (fun x y => x - y) <| w_is 0 <| w_il 0 <| w_c 858993459 <| w_i2 (fun x y => x &&& y) <| w_il 0 <| w_c 2 <| w_i2 (fun x y => (x.toUInt32 >>> (y.toUInt32 &&& Int32.toUInt32 31)).toInt32) <| w_c 858993459 <| w_i2 (fun x y => x &&& y) <| w_i2 (fun x y => x + y) <| w_is 0 <| w_il 0 <| w_il 0 <| w_c 4 <| w_i2 (fun x y => (x.toUInt32 >>> (y.toUInt32 &&& Int32.toUInt32 31)).toInt32) <| w_i2 (fun x y => x + y) <| w_c 252645135 <| w_i2 (fun x y => x &&& y) <| w_is 0 <| w_il 0 <| w_il 0 <| w_c 8 <| w_i2 (fun x y => (x.toUInt32 >>> (y.toUInt32 &&& Int32.toUInt32 31)).toInt32) <| w_i2 (fun x y => x + y) <| w_is 0 <| w_il 0 <| w_il 0 <| w_c 16 <| w_i2 (fun x y => (x.toUInt32 >>> (y.toUInt32 &&& Int32.toUInt32 31)).toInt32) <| w_i2 (fun x y => x + y) <| w_is 0 <| w_il 0 <| w_c 63 <| w_i2 (fun x y => x &&& y) <| w_ir Z
theorem o_J_bitCount_0 {X : ra_X} {p : Program} {l : Launch} {e : Env} {s : State} {m : MethodId} {args : Array Value} {below : List Frame} {meth : Method} {c : Code} {Z : ra_R}  (F : ra_Fx X p rm_J_bitCount s m args c prog_15_method_49_code 1 cn_J) (hr : meth.sig.returnType = (some .int)) (hlk : meth.locks = false) : ra_At X p l e rm_J_bitCount s m args below meth c 1 (MQ below (ra_Qc X Z) args s 0 0 (ra_A X)) (b_J_bitCount_0 Z) 0 :=
  r_iload_n F d_J_bitCount_0 rfl <| r_iload_n F d_J_bitCount_1 rfl <| r_iconst F d_J_bitCount_2 (by decide) <| r_iushr F d_J_bitCount_3 <| r_ldcw F d_J_bitCount_4 kc_J_265 <| r_iand F d_J_bitCount_7 <| r_isub F d_J_bitCount_8 <| r_istore_n F d_J_bitCount_9 rfl (by decide) <| r_iload_n F d_J_bitCount_10 rfl <| r_ldcw F d_J_bitCount_11 kc_J_266 <| r_iand F d_J_bitCount_14 <| r_iload_n F d_J_bitCount_15 rfl <| r_iconst F d_J_bitCount_16 (by decide) <| r_iushr F d_J_bitCount_17 <| r_ldcw F d_J_bitCount_18 kc_J_266 <| r_iand F d_J_bitCount_21 <| r_iadd F d_J_bitCount_22 <| r_istore_n F d_J_bitCount_23 rfl (by decide) <| r_iload_n F d_J_bitCount_24 rfl <| r_iload_n F d_J_bitCount_25 rfl <| r_iconst F d_J_bitCount_26 (by decide) <| r_iushr F d_J_bitCount_27 <| r_iadd F d_J_bitCount_28 <| r_ldcw F d_J_bitCount_29 kc_J_267 <| r_iand F d_J_bitCount_32 <| r_istore_n F d_J_bitCount_33 rfl (by decide) <| r_iload_n F d_J_bitCount_34 rfl <| r_iload_n F d_J_bitCount_35 rfl <| r_bipush F d_J_bitCount_36 (by decide) <| r_iushr F d_J_bitCount_38 <| r_iadd F d_J_bitCount_39 <| r_istore_n F d_J_bitCount_40 rfl (by decide) <| r_iload_n F d_J_bitCount_41 rfl <| r_iload_n F d_J_bitCount_42 rfl <| r_bipush F d_J_bitCount_43 (by decide) <| r_iushr F d_J_bitCount_45 <| r_iadd F d_J_bitCount_46 <| r_istore_n F d_J_bitCount_47 rfl (by decide) <| r_iload_n F d_J_bitCount_48 rfl <| r_bipush F d_J_bitCount_49 (by decide) <| r_iand F d_J_bitCount_51 <| r_ireturn F hr hlk d_J_bitCount_52
theorem g_J_bitCount {l : Launch} {X : ra_X}  (sp : ra_Sp) (ve : ∀ as σ Z, ra_c1 as = true → as.length = 1 → sp as σ Z → b_J_bitCount_0 Z (ra_pad 1 as) [] σ) : ra_MOK l X mi_J_bitCount sp := by
  refine ra_enter (k := fun Z as σ => b_J_bitCount_0 Z) cn_J rfl (by decide +kernel) ⟨by decide +kernel, by decide +kernel⟩ (by decide +kernel) ?_ ve
  intro p e s m args below meth c Z as σ hsp F hr hlk
  exact o_J_bitCount_0 F hr hlk

theorem d_R_ring_0 : decode prog_1_method_15_code 0 = .ok (.aload_n 0, 1) := by decide +kernel
theorem d_R_ring_1 : decode prog_1_method_15_code 1 = .ok (.iload_n 1, 1) := by decide +kernel
theorem d_R_ring_2 : decode prog_1_method_15_code 2 = .ok (.invokevirtual 96, 3) := by decide +kernel
theorem d_R_ring_5 : decode prog_1_method_15_code 5 = .ok (.ifCond .ne 12, 3) := by decide +kernel
theorem d_R_ring_8 : decode prog_1_method_15_code 8 = .ok (.iload_n 2, 1) := by decide +kernel
theorem d_R_ring_9 : decode prog_1_method_15_code 9 = .ok (.iconst 0, 1) := by decide +kernel
theorem d_R_ring_10 : decode prog_1_method_15_code 10 = .ok (.iconst 1, 1) := by decide +kernel
theorem d_R_ring_11 : decode prog_1_method_15_code 11 = .ok (.invokestatic 73, 3) := by decide +kernel
theorem d_R_ring_14 : decode prog_1_method_15_code 14 = .ok (.ifCond .eq 6, 3) := by decide +kernel
theorem d_R_ring_17 : decode prog_1_method_15_code 17 = .ok (.bipush (-2), 2) := by decide +kernel
theorem d_R_ring_19 : decode prog_1_method_15_code 19 = .ok (.ireturn, 1) := by decide +kernel
theorem d_R_ring_20 : decode prog_1_method_15_code 20 = .ok (.aload_n 0, 1) := by decide +kernel
theorem d_R_ring_21 : decode prog_1_method_15_code 21 = .ok (.getfield 12, 3) := by decide +kernel
theorem d_R_ring_24 : decode prog_1_method_15_code 24 = .ok (.getfield 157, 3) := by decide +kernel
theorem d_R_ring_27 : decode prog_1_method_15_code 27 = .ok (.iload_n 1, 1) := by decide +kernel
theorem d_R_ring_28 : decode prog_1_method_15_code 28 = .ok (.iaload, 1) := by decide +kernel
theorem d_R_ring_29 : decode prog_1_method_15_code 29 = .ok (.istore_n 3, 1) := by decide +kernel
theorem d_R_ring_30 : decode prog_1_method_15_code 30 = .ok (.iload_n 2, 1) := by decide +kernel
theorem d_R_ring_31 : decode prog_1_method_15_code 31 = .ok (.ifCond .ne 7, 3) := by decide +kernel
theorem d_R_ring_34 : decode prog_1_method_15_code 34 = .ok (.iload_n 3, 1) := by decide +kernel
theorem d_R_ring_35 : decode prog_1_method_15_code 35 = .ok (.goto 7, 3) := by decide +kernel
theorem d_R_ring_38 : decode prog_1_method_15_code 38 = .ok (.iload_n 3, 1) := by decide +kernel
theorem d_R_ring_39 : decode prog_1_method_15_code 39 = .ok (.invokestatic 160, 3) := by decide +kernel
theorem d_R_ring_42 : decode prog_1_method_15_code 42 = .ok (.ireturn, 1) := by decide +kernel
def b_R_ring_42 (c0 c1 c2 : ra_Sp) (Z : ra_R) : ra_K := w_ir Z
def b_R_ring_38 (c0 c1 c2 : ra_Sp) (Z : ra_R) : ra_K := w_il 3 <| w_cs c2 1 <| (b_R_ring_42 c0 c1 c2 Z)
def b_R_ring_34 (c0 c1 c2 : ra_Sp) (Z : ra_R) : ra_K := w_il 3 <| (b_R_ring_42 c0 c1 c2 Z)
def b_R_ring_20 (c0 c1 c2 : ra_Sp) (Z : ra_R) : ra_K := w_al 0 <| w_gr 0 0 <| w_gr 1 7 <| w_il 1 <| w_ald <| w_is 3 <| w_il 2 <| w_b1 (fun x => x = 0) (b_R_ring_34 c0 c1 c2 Z) (b_R_ring_38 c0 c1 c2 Z)
def b_R_ring_17 (c0 c1 c2 : ra_Sp) (Z : ra_R) : ra_K := w_c (-2) <| w_ir Z
def b_R_ring_8 (c0 c1 c2 : ra_Sp) (Z : ra_R) : ra_K := w_il 2 <| w_c 0 <| w_c 1 <| w_cs c1 3 <| w_b1 (fun x => x = 0) (b_R_ring_20 c0 c1 c2 Z) (b_R_ring_17 c0 c1 c2 Z)
def b_R_ring_0 (c0 c1 c2 : ra_Sp) (Z : ra_R) : ra_K := w_al 0 <| w_il 1 <| w_cv c0 2 0 <| w_b1 (fun x => x = 0) (b_R_ring_8 c0 c1 c2 Z) (b_R_ring_17 c0 c1 c2 Z)
theorem o_R_ring_42 {X : ra_X} {p : Program} {l : Launch} {e : Env} {s : State} {m : MethodId} {args : Array Value} {below : List Frame} {meth : Method} {c : Code} {Z : ra_R} {c0 c1 c2 : ra_Sp}  (h0 : ra_MOK l X mi_R_isNoHouse c0) (h1 : ra_MOK l X mi_R_isOutside c1) (h2 : ra_MOK l X mi_J_bitCount c2) (F : ra_Fx X p rm_R_ring s m args c prog_1_method_15_code 4 cn_R) (hr : meth.sig.returnType = (some .int)) (hlk : meth.locks = false) : ra_At X p l e rm_R_ring s m args below meth c 4 (MQ below (ra_Qc X Z) args s 0 0 (ra_A X)) (b_R_ring_42 c0 c1 c2 Z) 42 :=
  r_ireturn F hr hlk d_R_ring_42
theorem o_R_ring_38 {X : ra_X} {p : Program} {l : Launch} {e : Env} {s : State} {m : MethodId} {args : Array Value} {below : List Frame} {meth : Method} {c : Code} {Z : ra_R} {c0 c1 c2 : ra_Sp}  (h0 : ra_MOK l X mi_R_isNoHouse c0) (h1 : ra_MOK l X mi_R_isOutside c1) (h2 : ra_MOK l X mi_J_bitCount c2) (F : ra_Fx X p rm_R_ring s m args c prog_1_method_15_code 4 cn_R) (hr : meth.sig.returnType = (some .int)) (hlk : meth.locks = false) : ra_At X p l e rm_R_ring s m args below meth c 4 (MQ below (ra_Qc X Z) args s 0 0 (ra_A X)) (b_R_ring_38 c0 c1 c2 Z) 38 :=
  r_iload_n F d_R_ring_38 rfl <| r_callS F h2 (co_J_bitCount (by decide +kernel) (by decide +kernel)) ⟨rfl, by decide +kernel⟩ ml_R_160 st_J_bitCount d_R_ring_39 <| (o_R_ring_42 h0 h1 h2 F hr hlk)
theorem o_R_ring_34 {X : ra_X} {p : Program} {l : Launch} {e : Env} {s : State} {m : MethodId} {args : Array Value} {below : List Frame} {meth : Method} {c : Code} {Z : ra_R} {c0 c1 c2 : ra_Sp}  (h0 : ra_MOK l X mi_R_isNoHouse c0) (h1 : ra_MOK l X mi_R_isOutside c1) (h2 : ra_MOK l X mi_J_bitCount c2) (F : ra_Fx X p rm_R_ring s m args c prog_1_method_15_code 4 cn_R) (hr : meth.sig.returnType = (some .int)) (hlk : meth.locks = false) : ra_At X p l e rm_R_ring s m args below meth c 4 (MQ below (ra_Qc X Z) args s 0 0 (ra_A X)) (b_R_ring_34 c0 c1 c2 Z) 34 :=
  r_iload_n F d_R_ring_34 rfl <| r_goto F d_R_ring_35 (by decide) (o_R_ring_42 h0 h1 h2 F hr hlk)
theorem o_R_ring_20 {X : ra_X} {p : Program} {l : Launch} {e : Env} {s : State} {m : MethodId} {args : Array Value} {below : List Frame} {meth : Method} {c : Code} {Z : ra_R} {c0 c1 c2 : ra_Sp}  (h0 : ra_MOK l X mi_R_isNoHouse c0) (h1 : ra_MOK l X mi_R_isOutside c1) (h2 : ra_MOK l X mi_J_bitCount c2) (F : ra_Fx X p rm_R_ring s m args c prog_1_method_15_code 4 cn_R) (hr : meth.sig.returnType = (some .int)) (hlk : meth.locks = false) : ra_At X p l e rm_R_ring s m args below meth c 4 (MQ below (ra_Qc X Z) args s 0 0 (ra_A X)) (b_R_ring_20 c0 c1 c2 Z) 20 :=
  r_aload_n F d_R_ring_20 rfl <| r_getR F cg_R (j := 0) (by decide) rfl fl_R_12 d_R_ring_21 <| r_getR F cg_V (j := 7) (by decide) rfl fl_R_157 d_R_ring_24 <| r_iload_n F d_R_ring_27 rfl <| r_iaload F d_R_ring_28 <| r_istore_n F d_R_ring_29 rfl (by decide) <| r_iload_n F d_R_ring_30 rfl <| r_if_ne F d_R_ring_31 (by decide) (o_R_ring_38 h0 h1 h2 F hr hlk) (o_R_ring_34 h0 h1 h2 F hr hlk)
theorem o_R_ring_17 {X : ra_X} {p : Program} {l : Launch} {e : Env} {s : State} {m : MethodId} {args : Array Value} {below : List Frame} {meth : Method} {c : Code} {Z : ra_R} {c0 c1 c2 : ra_Sp}  (h0 : ra_MOK l X mi_R_isNoHouse c0) (h1 : ra_MOK l X mi_R_isOutside c1) (h2 : ra_MOK l X mi_J_bitCount c2) (F : ra_Fx X p rm_R_ring s m args c prog_1_method_15_code 4 cn_R) (hr : meth.sig.returnType = (some .int)) (hlk : meth.locks = false) : ra_At X p l e rm_R_ring s m args below meth c 4 (MQ below (ra_Qc X Z) args s 0 0 (ra_A X)) (b_R_ring_17 c0 c1 c2 Z) 17 :=
  r_bipush F d_R_ring_17 (by decide) <| r_ireturn F hr hlk d_R_ring_19
theorem o_R_ring_8 {X : ra_X} {p : Program} {l : Launch} {e : Env} {s : State} {m : MethodId} {args : Array Value} {below : List Frame} {meth : Method} {c : Code} {Z : ra_R} {c0 c1 c2 : ra_Sp}  (h0 : ra_MOK l X mi_R_isNoHouse c0) (h1 : ra_MOK l X mi_R_isOutside c1) (h2 : ra_MOK l X mi_J_bitCount c2) (F : ra_Fx X p rm_R_ring s m args c prog_1_method_15_code 4 cn_R) (hr : meth.sig.returnType = (some .int)) (hlk : meth.locks = false) : ra_At X p l e rm_R_ring s m args below meth c 4 (MQ below (ra_Qc X Z) args s 0 0 (ra_A X)) (b_R_ring_8 c0 c1 c2 Z) 8 :=
  r_iload_n F d_R_ring_8 rfl <| r_iconst F d_R_ring_9 (by decide) <| r_iconst F d_R_ring_10 (by decide) <| r_callS F h1 (co_R_isOutside (by decide +kernel) (by decide +kernel)) ⟨rfl, by decide +kernel⟩ ml_R_73 st_R_isOutside d_R_ring_11 <| r_if_eq F d_R_ring_14 (by decide) (o_R_ring_20 h0 h1 h2 F hr hlk) (o_R_ring_17 h0 h1 h2 F hr hlk)
theorem o_R_ring_0 {X : ra_X} {p : Program} {l : Launch} {e : Env} {s : State} {m : MethodId} {args : Array Value} {below : List Frame} {meth : Method} {c : Code} {Z : ra_R} {c0 c1 c2 : ra_Sp}  (h0 : ra_MOK l X mi_R_isNoHouse c0) (h1 : ra_MOK l X mi_R_isOutside c1) (h2 : ra_MOK l X mi_J_bitCount c2) (F : ra_Fx X p rm_R_ring s m args c prog_1_method_15_code 4 cn_R) (hr : meth.sig.returnType = (some .int)) (hlk : meth.locks = false) : ra_At X p l e rm_R_ring s m args below meth c 4 (MQ below (ra_Qc X Z) args s 0 0 (ra_A X)) (b_R_ring_0 c0 c1 c2 Z) 0 :=
  r_aload_n F d_R_ring_0 rfl <| r_iload_n F d_R_ring_1 rfl <| r_callV F h0 (co_R_isNoHouse (by decide +kernel) (by decide +kernel)) ⟨rfl, by decide +kernel⟩ ⟨rfl, by decide⟩ ml_R_96 im_R_isNoHouse se_R_isNoHouse d_R_ring_2 <| r_if_ne F d_R_ring_5 (by decide) (o_R_ring_17 h0 h1 h2 F hr hlk) (o_R_ring_8 h0 h1 h2 F hr hlk)
theorem g_R_ring {l : Launch} {X : ra_X} {c0 c1 c2 : ra_Sp}  (h0 : ra_MOK l X mi_R_isNoHouse c0) (h1 : ra_MOK l X mi_R_isOutside c1) (h2 : ra_MOK l X mi_J_bitCount c2) (sp : ra_Sp) (ve : ∀ as σ Z, ra_c1 as = true → as.length = 3 → sp as σ Z → b_R_ring_0 c0 c1 c2 Z (ra_pad 4 as) [] σ) : ra_MOK l X mi_R_ring sp := by
  refine ra_enter (k := fun Z as σ => b_R_ring_0 c0 c1 c2 Z) cn_R rfl (by decide +kernel) ⟨by decide +kernel, by decide +kernel⟩ (by decide +kernel) ?_ ve
  intro p e s m args below meth c Z as σ hsp F hr hlk
  exact o_R_ring_0 h0 h1 h2 F hr hlk

theorem d_Mo_isTried_0 : decode prog_6_method_2_code 0 = .ok (.aload_n 0, 1) := by decide +kernel
theorem d_Mo_isTried_1 : decode prog_6_method_2_code 1 = .ok (.getfield 28, 3) := by decide +kernel
theorem d_Mo_isTried_4 : decode prog_6_method_2_code 4 = .ok (.getfield 45, 3) := by decide +kernel
theorem d_Mo_isTried_7 : decode prog_6_method_2_code 7 = .ok (.aload_n 0, 1) := by decide +kernel
theorem d_Mo_isTried_8 : decode prog_6_method_2_code 8 = .ok (.getfield 32, 3) := by decide +kernel
theorem d_Mo_isTried_11 : decode prog_6_method_2_code 11 = .ok (.getfield 50, 3) := by decide +kernel
theorem d_Mo_isTried_14 : decode prog_6_method_2_code 14 = .ok (.iadd, 1) := by decide +kernel
theorem d_Mo_isTried_15 : decode prog_6_method_2_code 15 = .ok (.istore_n 3, 1) := by decide +kernel
theorem d_Mo_isTried_16 : decode prog_6_method_2_code 16 = .ok (.aload_n 0, 1) := by decide +kernel
theorem d_Mo_isTried_17 : decode prog_6_method_2_code 17 = .ok (.getfield 24, 3) := by decide +kernel
theorem d_Mo_isTried_20 : decode prog_6_method_2_code 20 = .ok (.iload_n 3, 1) := by decide +kernel
theorem d_Mo_isTried_21 : decode prog_6_method_2_code 21 = .ok (.if_icmp .eq 32, 3) := by decide +kernel
theorem d_Mo_isTried_24 : decode prog_6_method_2_code 24 = .ok (.aload_n 0, 1) := by decide +kernel
theorem d_Mo_isTried_25 : decode prog_6_method_2_code 25 = .ok (.iload_n 3, 1) := by decide +kernel
theorem d_Mo_isTried_26 : decode prog_6_method_2_code 26 = .ok (.putfield 24, 3) := by decide +kernel
theorem d_Mo_isTried_29 : decode prog_6_method_2_code 29 = .ok (.iconst 0, 1) := by decide +kernel
theorem d_Mo_isTried_30 : decode prog_6_method_2_code 30 = .ok (.istore 4, 2) := by decide +kernel
theorem d_Mo_isTried_32 : decode prog_6_method_2_code 32 = .ok (.iload 4, 2) := by decide +kernel
theorem d_Mo_isTried_34 : decode prog_6_method_2_code 34 = .ok (.bipush 8, 2) := by decide +kernel
theorem d_Mo_isTried_36 : decode prog_6_method_2_code 36 = .ok (.if_icmp .ge 17, 3) := by decide +kernel
theorem d_Mo_isTried_39 : decode prog_6_method_2_code 39 = .ok (.aload_n 0, 1) := by decide +kernel
theorem d_Mo_isTried_40 : decode prog_6_method_2_code 40 = .ok (.getfield 9, 3) := by decide +kernel
theorem d_Mo_isTried_43 : decode prog_6_method_2_code 43 = .ok (.iload 4, 2) := by decide +kernel
theorem d_Mo_isTried_45 : decode prog_6_method_2_code 45 = .ok (.iconst (-1), 1) := by decide +kernel
theorem d_Mo_isTried_46 : decode prog_6_method_2_code 46 = .ok (.iastore, 1) := by decide +kernel
theorem d_Mo_isTried_47 : decode prog_6_method_2_code 47 = .ok (.iinc 4 1, 3) := by decide +kernel
theorem d_Mo_isTried_50 : decode prog_6_method_2_code 50 = .ok (.goto (-18), 3) := by decide +kernel
theorem d_Mo_isTried_53 : decode prog_6_method_2_code 53 = .ok (.aload_n 0, 1) := by decide +kernel
theorem d_Mo_isTried_54 : decode prog_6_method_2_code 54 = .ok (.getfield 9, 3) := by decide +kernel
theorem d_Mo_isTried_57 : decode prog_6_method_2_code 57 = .ok (.iload_n 1, 1) := by decide +kernel
theorem d_Mo_isTried_58 : decode prog_6_method_2_code 58 = .ok (.iaload, 1) := by decide +kernel
theorem d_Mo_isTried_59 : decode prog_6_method_2_code 59 = .ok (.iload_n 2, 1) := by decide +kernel
theorem d_Mo_isTried_60 : decode prog_6_method_2_code 60 = .ok (.if_icmp .ne 7, 3) := by decide +kernel
theorem d_Mo_isTried_63 : decode prog_6_method_2_code 63 = .ok (.iconst 1, 1) := by decide +kernel
theorem d_Mo_isTried_64 : decode prog_6_method_2_code 64 = .ok (.goto 4, 3) := by decide +kernel
theorem d_Mo_isTried_67 : decode prog_6_method_2_code 67 = .ok (.iconst 0, 1) := by decide +kernel
theorem d_Mo_isTried_68 : decode prog_6_method_2_code 68 = .ok (.ireturn, 1) := by decide +kernel
def b_Mo_isTried_68 (I : Nat → ra_K) (Z : ra_R) : ra_K := w_zr Z
def b_Mo_isTried_67 (I : Nat → ra_K) (Z : ra_R) : ra_K := w_c 0 <| (b_Mo_isTried_68 I Z)
def b_Mo_isTried_63 (I : Nat → ra_K) (Z : ra_R) : ra_K := w_c 1 <| (b_Mo_isTried_68 I Z)
def b_Mo_isTried_53 (I : Nat → ra_K) (Z : ra_R) : ra_K := w_al 0 <| w_gr 6 3 <| w_il 1 <| w_ald <| w_il 2 <| w_b2 (fun x y => x = y) (b_Mo_isTried_63 I Z) (b_Mo_isTried_67 I Z)
def b_Mo_isTried_39 (I : Nat → ra_K) (Z : ra_R) : ra_K := w_al 0 <| w_gr 6 3 <| w_il 4 <| w_c (-1) <| w_ast <| w_inc 4 1 <| (I 32)
def b_Mo_isTried_32 (I : Nat → ra_K) (Z : ra_R) : ra_K := w_il 4 <| w_c 8 <| w_b2 (fun x y => y ≤ x) (b_Mo_isTried_53 I Z) (b_Mo_isTried_39 I Z)
def b_Mo_isTried_24 (I : Nat → ra_K) (Z : ra_R) : ra_K := w_al 0 <| w_il 3 <| w_pi 6 7 <| w_c 0 <| w_is 4 <| (I 32)
def b_Mo_isTried_0 (I : Nat → ra_K) (Z : ra_R) : ra_K := w_al 0 <| w_gr 6 0 <| w_gi 1 11 <| w_al 0 <| w_gr 6 1 <| w_gi 3 4 <| w_i2 (fun x y => x + y) <| w_is 3 <| w_al 0 <| w_gi 6 7 <| w_il 3 <| w_b2 (fun x y => x = y) (b_Mo_isTried_53 I Z) (b_Mo_isTried_24 I Z)
theorem o_Mo_isTried_68 {X : ra_X} {p : Program} {l : Launch} {e : Env} {s : State} {m : MethodId} {args : Array Value} {below : List Frame} {meth : Method} {c : Code} {Z : ra_R}  (F : ra_Fx X p rm_Mo_isTried s m args c prog_6_method_2_code 5 cn_Mo) (hr : meth.sig.returnType = (some .boolean)) (hlk : meth.locks = false) {I : Nat → ra_K} (hI : ∀ t ∈ [32], ra_At X p l e rm_Mo_isTried s m args below meth c 5 (MQ below (ra_Qc X Z) args s 0 0 (ra_A X)) (I t) t) : ra_At X p l e rm_Mo_isTried s m args below meth c 5 (MQ below (ra_Qc X Z) args s 0 0 (ra_A X)) (b_Mo_isTried_68 I Z) 68 :=
  r_zreturn F hr hlk d_Mo_isTried_68
theorem o_Mo_isTried_67 {X : ra_X} {p : Program} {l : Launch} {e : Env} {s : State} {m : MethodId} {args : Array Value} {below : List Frame} {meth : Method} {c : Code} {Z : ra_R}  (F : ra_Fx X p rm_Mo_isTried s m args c prog_6_method_2_code 5 cn_Mo) (hr : meth.sig.returnType = (some .boolean)) (hlk : meth.locks = false) {I : Nat → ra_K} (hI : ∀ t ∈ [32], ra_At X p l e rm_Mo_isTried s m args below meth c 5 (MQ below (ra_Qc X Z) args s 0 0 (ra_A X)) (I t) t) : ra_At X p l e rm_Mo_isTried s m args below meth c 5 (MQ below (ra_Qc X Z) args s 0 0 (ra_A X)) (b_Mo_isTried_67 I Z) 67 :=
  r_iconst F d_Mo_isTried_67 (by decide) <| (o_Mo_isTried_68 F hr hlk hI)
theorem o_Mo_isTried_63 {X : ra_X} {p : Program} {l : Launch} {e : Env} {s : State} {m : MethodId} {args : Array Value} {below : List Frame} {meth : Method} {c : Code} {Z : ra_R}  (F : ra_Fx X p rm_Mo_isTried s m args c prog_6_method_2_code 5 cn_Mo) (hr : meth.sig.returnType = (some .boolean)) (hlk : meth.locks = false) {I : Nat → ra_K} (hI : ∀ t ∈ [32], ra_At X p l e rm_Mo_isTried s m args below meth c 5 (MQ below (ra_Qc X Z) args s 0 0 (ra_A X)) (I t) t) : ra_At X p l e rm_Mo_isTried s m args below meth c 5 (MQ below (ra_Qc X Z) args s 0 0 (ra_A X)) (b_Mo_isTried_63 I Z) 63 :=
  r_iconst F d_Mo_isTried_63 (by decide) <| r_goto F d_Mo_isTried_64 (by decide) (o_Mo_isTried_68 F hr hlk hI)
theorem o_Mo_isTried_53 {X : ra_X} {p : Program} {l : Launch} {e : Env} {s : State} {m : MethodId} {args : Array Value} {below : List Frame} {meth : Method} {c : Code} {Z : ra_R}  (F : ra_Fx X p rm_Mo_isTried s m args c prog_6_method_2_code 5 cn_Mo) (hr : meth.sig.returnType = (some .boolean)) (hlk : meth.locks = false) {I : Nat → ra_K} (hI : ∀ t ∈ [32], ra_At X p l e rm_Mo_isTried s m args below meth c 5 (MQ below (ra_Qc X Z) args s 0 0 (ra_A X)) (I t) t) : ra_At X p l e rm_Mo_isTried s m args below meth c 5 (MQ below (ra_Qc X Z) args s 0 0 (ra_A X)) (b_Mo_isTried_53 I Z) 53 :=
  r_aload_n F d_Mo_isTried_53 rfl <| r_getR F cg_Mo (j := 3) (by decide) rfl fl_Mo_9 d_Mo_isTried_54 <| r_iload_n F d_Mo_isTried_57 rfl <| r_iaload F d_Mo_isTried_58 <| r_iload_n F d_Mo_isTried_59 rfl <| r_icmp_ne F d_Mo_isTried_60 (by decide) (o_Mo_isTried_67 F hr hlk hI) (o_Mo_isTried_63 F hr hlk hI)
theorem o_Mo_isTried_39 {X : ra_X} {p : Program} {l : Launch} {e : Env} {s : State} {m : MethodId} {args : Array Value} {below : List Frame} {meth : Method} {c : Code} {Z : ra_R}  (F : ra_Fx X p rm_Mo_isTried s m args c prog_6_method_2_code 5 cn_Mo) (hr : meth.sig.returnType = (some .boolean)) (hlk : meth.locks = false) {I : Nat → ra_K} (hI : ∀ t ∈ [32], ra_At X p l e rm_Mo_isTried s m args below meth c 5 (MQ below (ra_Qc X Z) args s 0 0 (ra_A X)) (I t) t) : ra_At X p l e rm_Mo_isTried s m args below meth c 5 (MQ below (ra_Qc X Z) args s 0 0 (ra_A X)) (b_Mo_isTried_39 I Z) 39 :=
  r_aload_n F d_Mo_isTried_39 rfl <| r_getR F cg_Mo (j := 3) (by decide) rfl fl_Mo_9 d_Mo_isTried_40 <| r_iload F d_Mo_isTried_43 <| r_iconst F d_Mo_isTried_45 (by decide) <| r_iastore F d_Mo_isTried_46 <| r_iinc F d_Mo_isTried_47 (by decide) (by decide) <| r_goto F d_Mo_isTried_50 (by decide) (hI 32 (by decide))
theorem o_Mo_isTried_32 {X : ra_X} {p : Program} {l : Launch} {e : Env} {s : State} {m : MethodId} {args : Array Value} {below : List Frame} {meth : Method} {c : Code} {Z : ra_R}  (F : ra_Fx X p rm_Mo_isTried s m args c prog_6_method_2_code 5 cn_Mo) (hr : meth.sig.returnType = (some .boolean)) (hlk : meth.locks = false) {I : Nat → ra_K} (hI : ∀ t ∈ [32], ra_At X p l e rm_Mo_isTried s m args below meth c 5 (MQ below (ra_Qc X Z) args s 0 0 (ra_A X)) (I t) t) : ra_At X p l e rm_Mo_isTried s m args below meth c 5 (MQ below (ra_Qc X Z) args s 0 0 (ra_A X)) (b_Mo_isTried_32 I Z) 32 :=
  r_iload F d_Mo_isTried_32 <| r_bipush F d_Mo_isTried_34 (by decide) <| r_icmp_ge F d_Mo_isTried_36 (by decide) (o_Mo_isTried_53 F hr hlk hI) (o_Mo_isTried_39 F hr hlk hI)
theorem o_Mo_isTried_24 {X : ra_X} {p : Program} {l : Launch} {e : Env} {s : State} {m : MethodId} {args : Array Value} {below : List Frame} {meth : Method} {c : Code} {Z : ra_R}  (F : ra_Fx X p rm_Mo_isTried s m args c prog_6_method_2_code 5 cn_Mo) (hr : meth.sig.returnType = (some .boolean)) (hlk : meth.locks = false) {I : Nat → ra_K} (hI : ∀ t ∈ [32], ra_At X p l e rm_Mo_isTried s m args below meth c 5 (MQ below (ra_Qc X Z) args s 0 0 (ra_A X)) (I t) t) : ra_At X p l e rm_Mo_isTried s m args below meth c 5 (MQ below (ra_Qc X Z) args s 0 0 (ra_A X)) (b_Mo_isTried_24 I Z) 24 :=
  r_aload_n F d_Mo_isTried_24 rfl <| r_iload_n F d_Mo_isTried_25 rfl <| r_putI F cg_Mo (j := 7) (by decide) rfl rfl rfl fl_Mo_24 d_Mo_isTried_26 <| r_iconst F d_Mo_isTried_29 (by decide) <| r_istore F d_Mo_isTried_30 (by decide) <| (hI 32 (by decide))
theorem o_Mo_isTried_0 {X : ra_X} {p : Program} {l : Launch} {e : Env} {s : State} {m : MethodId} {args : Array Value} {below : List Frame} {meth : Method} {c : Code} {Z : ra_R}  (F : ra_Fx X p rm_Mo_isTried s m args c prog_6_method_2_code 5 cn_Mo) (hr : meth.sig.returnType = (some .boolean)) (hlk : meth.locks = false) {I : Nat → ra_K} (hI : ∀ t ∈ [32], ra_At X p l e rm_Mo_isTried s m args below meth c 5 (MQ below (ra_Qc X Z) args s 0 0 (ra_A X)) (I t) t) : ra_At X p l e rm_Mo_isTried s m args below meth c 5 (MQ below (ra_Qc X Z) args s 0 0 (ra_A X)) (b_Mo_isTried_0 I Z) 0 :=
  r_aload_n F d_Mo_isTried_0 rfl <| r_getR F cg_Mo (j := 0) (by decide) rfl fl_Mo_28 d_Mo_isTried_1 <| r_getI F cg_V (j := 11) (by decide) rfl fl_Mo_45 d_Mo_isTried_4 <| r_aload_n F d_Mo_isTried_7 rfl <| r_getR F cg_Mo (j := 1) (by decide) rfl fl_Mo_32 d_Mo_isTried_8 <| r_getI F cg_Wt (j := 4) (by decide) rfl fl_Mo_50 d_Mo_isTried_11 <| r_iadd F d_Mo_isTried_14 <| r_istore_n F d_Mo_isTried_15 rfl (by decide) <| r_aload_n F d_Mo_isTried_16 rfl <| r_getI F cg_Mo (j := 7) (by decide) rfl fl_Mo_24 d_Mo_isTried_17 <| r_iload_n F d_Mo_isTried_20 rfl <| r_icmp_eq F d_Mo_isTried_21 (by decide) (o_Mo_isTried_53 F hr hlk hI) (o_Mo_isTried_24 F hr hlk hI)
theorem g_Mo_isTried {l : Launch} {X : ra_X}  (sp : ra_Sp) (I : ra_R → List Value → ra_St → Nat → ra_M → ra_K) (ve : ∀ as σ Z, ra_c1 as = true → as.length = 3 → sp as σ Z → b_Mo_isTried_0 (ra_I (I Z as σ)) Z (ra_pad 5 as) [] σ) (v32 : ∀ as σ Z, sp as σ Z → ∀ μ L S σ1, I Z as σ 32 μ L S σ1 → b_Mo_isTried_32 (ra_J (I Z as σ) μ) Z L S σ1) : ra_MOK l X mi_Mo_isTried sp := by
  refine ra_enter (k := fun Z as σ => b_Mo_isTried_0 (ra_I (I Z as σ)) Z) cn_Mo rfl (by decide +kernel) ⟨by decide +kernel, by decide +kernel⟩ (by decide +kernel) ?_ ve
  intro p e s m args below meth c Z as σ hsp F hr hlk
  refine o_Mo_isTried_0 F hr hlk (ra_cuts (b := fun t J => if t = 32 then b_Mo_isTried_32 J Z else fun _ _ _ => False) ?_ ?_)
  · intro t ht J hJ
    simp only [List.mem_cons, List.not_mem_nil, or_false] at ht
    rcases ht with rfl
    · exact o_Mo_isTried_32 F hr hlk hJ
  · intro t ht μ L S σ1 hI
    simp only [List.mem_cons, List.not_mem_nil, or_false] at ht
    rcases ht with rfl
    · exact v32 as σ Z hsp μ L S σ1 hI

theorem d_Mo_passAmongGrudges_0 : decode prog_6_method_4_code 0 = .ok (.iconst 0, 1) := by decide +kernel
theorem d_Mo_passAmongGrudges_1 : decode prog_6_method_4_code 1 = .ok (.istore 4, 2) := by decide +kernel
theorem d_Mo_passAmongGrudges_3 : decode prog_6_method_4_code 3 = .ok (.iload 4, 2) := by decide +kernel
theorem d_Mo_passAmongGrudges_5 : decode prog_6_method_4_code 5 = .ok (.aload_n 0, 1) := by decide +kernel
theorem d_Mo_passAmongGrudges_6 : decode prog_6_method_4_code 6 = .ok (.getfield 41, 3) := by decide +kernel
theorem d_Mo_passAmongGrudges_9 : decode prog_6_method_4_code 9 = .ok (.getfield 57, 3) := by decide +kernel
theorem d_Mo_passAmongGrudges_12 : decode prog_6_method_4_code 12 = .ok (.if_icmp .ge 28, 3) := by decide +kernel
theorem d_Mo_passAmongGrudges_15 : decode prog_6_method_4_code 15 = .ok (.aload_n 0, 1) := by decide +kernel
theorem d_Mo_passAmongGrudges_16 : decode prog_6_method_4_code 16 = .ok (.getfield 41, 3) := by decide +kernel
theorem d_Mo_passAmongGrudges_19 : decode prog_6_method_4_code 19 = .ok (.getfield 71, 3) := by decide +kernel
theorem d_Mo_passAmongGrudges_22 : decode prog_6_method_4_code 22 = .ok (.aload_n 0, 1) := by decide +kernel
theorem d_Mo_passAmongGrudges_23 : decode prog_6_method_4_code 23 = .ok (.getfield 41, 3) := by decide +kernel
theorem d_Mo_passAmongGrudges_26 : decode prog_6_method_4_code 26 = .ok (.getfield 60, 3) := by decide +kernel
theorem d_Mo_passAmongGrudges_29 : decode prog_6_method_4_code 29 = .ok (.iload 4, 2) := by decide +kernel
theorem d_Mo_passAmongGrudges_31 : decode prog_6_method_4_code 31 = .ok (.iaload, 1) := by decide +kernel
theorem d_Mo_passAmongGrudges_32 : decode prog_6_method_4_code 32 = .ok (.iconst 1, 1) := by decide +kernel
theorem d_Mo_passAmongGrudges_33 : decode prog_6_method_4_code 33 = .ok (.iastore, 1) := by decide +kernel
theorem d_Mo_passAmongGrudges_34 : decode prog_6_method_4_code 34 = .ok (.iinc 4 1, 3) := by decide +kernel
theorem d_Mo_passAmongGrudges_37 : decode prog_6_method_4_code 37 = .ok (.goto (-34), 3) := by decide +kernel
theorem d_Mo_passAmongGrudges_40 : decode prog_6_method_4_code 40 = .ok (.aload_n 0, 1) := by decide +kernel
theorem d_Mo_passAmongGrudges_41 : decode prog_6_method_4_code 41 = .ok (.getfield 41, 3) := by decide +kernel
theorem d_Mo_passAmongGrudges_44 : decode prog_6_method_4_code 44 = .ok (.getfield 71, 3) := by decide +kernel
theorem d_Mo_passAmongGrudges_47 : decode prog_6_method_4_code 47 = .ok (.iload_n 1, 1) := by decide +kernel
theorem d_Mo_passAmongGrudges_48 : decode prog_6_method_4_code 48 = .ok (.iload_n 2, 1) := by decide +kernel
theorem d_Mo_passAmongGrudges_49 : decode prog_6_method_4_code 49 = .ok (.iastore, 1) := by decide +kernel
theorem d_Mo_passAmongGrudges_50 : decode prog_6_method_4_code 50 = .ok (.aload_n 0, 1) := by decide +kernel
theorem d_Mo_passAmongGrudges_51 : decode prog_6_method_4_code 51 = .ok (.getfield 41, 3) := by decide +kernel
theorem d_Mo_passAmongGrudges_54 : decode prog_6_method_4_code 54 = .ok (.invokevirtual 74, 3) := by decide +kernel
theorem d_Mo_passAmongGrudges_57 : decode prog_6_method_4_code 57 = .ok (.iconst 0, 1) := by decide +kernel
theorem d_Mo_passAmongGrudges_58 : decode prog_6_method_4_code 58 = .ok (.istore 4, 2) := by decide +kernel
theorem d_Mo_passAmongGrudges_60 : decode prog_6_method_4_code 60 = .ok (.iload 4, 2) := by decide +kernel
theorem d_Mo_passAmongGrudges_62 : decode prog_6_method_4_code 62 = .ok (.aload_n 0, 1) := by decide +kernel
theorem d_Mo_passAmongGrudges_63 : decode prog_6_method_4_code 63 = .ok (.getfield 32, 3) := by decide +kernel
theorem d_Mo_passAmongGrudges_66 : decode prog_6_method_4_code 66 = .ok (.getfield 77, 3) := by decide +kernel
theorem d_Mo_passAmongGrudges_69 : decode prog_6_method_4_code 69 = .ok (.if_icmp .ge 26, 3) := by decide +kernel
theorem d_Mo_passAmongGrudges_72 : decode prog_6_method_4_code 72 = .ok (.aload_n 0, 1) := by decide +kernel
theorem d_Mo_passAmongGrudges_73 : decode prog_6_method_4_code 73 = .ok (.getfield 41, 3) := by decide +kernel
theorem d_Mo_passAmongGrudges_76 : decode prog_6_method_4_code 76 = .ok (.aload_n 0, 1) := by decide +kernel
theorem d_Mo_passAmongGrudges_77 : decode prog_6_method_4_code 77 = .ok (.getfield 32, 3) := by decide +kernel
theorem d_Mo_passAmongGrudges_80 : decode prog_6_method_4_code 80 = .ok (.getfield 80, 3) := by decide +kernel
theorem d_Mo_passAmongGrudges_83 : decode prog_6_method_4_code 83 = .ok (.iload 4, 2) := by decide +kernel
theorem d_Mo_passAmongGrudges_85 : decode prog_6_method_4_code 85 = .ok (.iaload, 1) := by decide +kernel
theorem d_Mo_passAmongGrudges_86 : decode prog_6_method_4_code 86 = .ok (.invokevirtual 83, 3) := by decide +kernel
theorem d_Mo_passAmongGrudges_89 : decode prog_6_method_4_code 89 = .ok (.iinc 4 1, 3) := by decide +kernel
theorem d_Mo_passAmongGrudges_92 : decode prog_6_method_4_code 92 = .ok (.goto (-32), 3) := by decide +kernel
theorem d_Mo_passAmongGrudges_95 : decode prog_6_method_4_code 95 = .ok (.iconst 0, 1) := by decide +kernel
theorem d_Mo_passAmongGrudges_96 : decode prog_6_method_4_code 96 = .ok (.istore 4, 2) := by decide +kernel
theorem d_Mo_passAmongGrudges_98 : decode prog_6_method_4_code 98 = .ok (.iconst 0, 1) := by decide +kernel
theorem d_Mo_passAmongGrudges_99 : decode prog_6_method_4_code 99 = .ok (.istore 5, 2) := by decide +kernel
theorem d_Mo_passAmongGrudges_101 : decode prog_6_method_4_code 101 = .ok (.iload 5, 2) := by decide +kernel
theorem d_Mo_passAmongGrudges_103 : decode prog_6_method_4_code 103 = .ok (.aload_n 0, 1) := by decide +kernel
theorem d_Mo_passAmongGrudges_104 : decode prog_6_method_4_code 104 = .ok (.getfield 41, 3) := by decide +kernel
theorem d_Mo_passAmongGrudges_107 : decode prog_6_method_4_code 107 = .ok (.getfield 57, 3) := by decide +kernel
theorem d_Mo_passAmongGrudges_110 : decode prog_6_method_4_code 110 = .ok (.if_icmp .ge 48, 3) := by decide +kernel
theorem d_Mo_passAmongGrudges_113 : decode prog_6_method_4_code 113 = .ok (.aload_n 0, 1) := by decide +kernel
theorem d_Mo_passAmongGrudges_114 : decode prog_6_method_4_code 114 = .ok (.getfield 41, 3) := by decide +kernel
theorem d_Mo_passAmongGrudges_117 : decode prog_6_method_4_code 117 = .ok (.getfield 60, 3) := by decide +kernel
theorem d_Mo_passAmongGrudges_120 : decode prog_6_method_4_code 120 = .ok (.iload 5, 2) := by decide +kernel
theorem d_Mo_passAmongGrudges_122 : decode prog_6_method_4_code 122 = .ok (.iaload, 1) := by decide +kernel
theorem d_Mo_passAmongGrudges_123 : decode prog_6_method_4_code 123 = .ok (.istore 6, 2) := by decide +kernel
theorem d_Mo_passAmongGrudges_125 : decode prog_6_method_4_code 125 = .ok (.iload 4, 2) := by decide +kernel
theorem d_Mo_passAmongGrudges_127 : decode prog_6_method_4_code 127 = .ok (.aload_n 0, 1) := by decide +kernel
theorem d_Mo_passAmongGrudges_128 : decode prog_6_method_4_code 128 = .ok (.getfield 41, 3) := by decide +kernel
theorem d_Mo_passAmongGrudges_131 : decode prog_6_method_4_code 131 = .ok (.getfield 86, 3) := by decide +kernel
theorem d_Mo_passAmongGrudges_134 : decode prog_6_method_4_code 134 = .ok (.iload 6, 2) := by decide +kernel
theorem d_Mo_passAmongGrudges_136 : decode prog_6_method_4_code 136 = .ok (.iaload, 1) := by decide +kernel
theorem d_Mo_passAmongGrudges_137 : decode prog_6_method_4_code 137 = .ok (.iload_n 3, 1) := by decide +kernel
theorem d_Mo_passAmongGrudges_138 : decode prog_6_method_4_code 138 = .ok (.if_icmp .gt 10, 3) := by decide +kernel
theorem d_Mo_passAmongGrudges_141 : decode prog_6_method_4_code 141 = .ok (.iconst 1, 1) := by decide +kernel
theorem d_Mo_passAmongGrudges_142 : decode prog_6_method_4_code 142 = .ok (.iload 6, 2) := by decide +kernel
theorem d_Mo_passAmongGrudges_144 : decode prog_6_method_4_code 144 = .ok (.ishl, 1) := by decide +kernel
theorem d_Mo_passAmongGrudges_145 : decode prog_6_method_4_code 145 = .ok (.goto 4, 3) := by decide +kernel
theorem d_Mo_passAmongGrudges_148 : decode prog_6_method_4_code 148 = .ok (.iconst 0, 1) := by decide +kernel
theorem d_Mo_passAmongGrudges_149 : decode prog_6_method_4_code 149 = .ok (.ior, 1) := by decide +kernel
theorem d_Mo_passAmongGrudges_150 : decode prog_6_method_4_code 150 = .ok (.istore 4, 2) := by decide +kernel
theorem d_Mo_passAmongGrudges_152 : decode prog_6_method_4_code 152 = .ok (.iinc 5 1, 3) := by decide +kernel
theorem d_Mo_passAmongGrudges_155 : decode prog_6_method_4_code 155 = .ok (.goto (-54), 3) := by decide +kernel
theorem d_Mo_passAmongGrudges_158 : decode prog_6_method_4_code 158 = .ok (.aload_n 0, 1) := by decide +kernel
theorem d_Mo_passAmongGrudges_159 : decode prog_6_method_4_code 159 = .ok (.getfield 21, 3) := by decide +kernel
theorem d_Mo_passAmongGrudges_162 : decode prog_6_method_4_code 162 = .ok (.iload_n 1, 1) := by decide +kernel
theorem d_Mo_passAmongGrudges_163 : decode prog_6_method_4_code 163 = .ok (.iconst 4, 1) := by decide +kernel
theorem d_Mo_passAmongGrudges_164 : decode prog_6_method_4_code 164 = .ok (.imul, 1) := by decide +kernel
theorem d_Mo_passAmongGrudges_165 : decode prog_6_method_4_code 165 = .ok (.iload_n 2, 1) := by decide +kernel
theorem d_Mo_passAmongGrudges_166 : decode prog_6_method_4_code 166 = .ok (.iadd, 1) := by decide +kernel
theorem d_Mo_passAmongGrudges_167 : decode prog_6_method_4_code 167 = .ok (.iload 4, 2) := by decide +kernel
theorem d_Mo_passAmongGrudges_169 : decode prog_6_method_4_code 169 = .ok (.iastore, 1) := by decide +kernel
theorem d_Mo_passAmongGrudges_170 : decode prog_6_method_4_code 170 = .ok (.return_, 1) := by decide +kernel
def b_Mo_passAmongGrudges_158 (c0 c1 : ra_Sp) (I : Nat → ra_K) (Z : ra_R) : ra_K := w_al 0 <| w_gr 6 6 <| w_il 1 <| w_c 4 <| w_i2 (fun x y => x * y) <| w_il 2 <| w_i2 (fun x y => x + y) <| w_il 4 <| w_ast <| w_vr Z
def b_Mo_passAmongGrudges_149 (c0 c1 : ra_Sp) (I : Nat → ra_K) (Z : ra_R) : ra_K := w_i2 (fun x y => x ||| y) <| w_is 4 <| w_inc 5 1 <| (I 101)
def b_Mo_passAmongGrudges_148 (c0 c1 : ra_Sp) (I : Nat → ra_K) (Z : ra_R) : ra_K := w_c 0 <| (b_Mo_passAmongGrudges_149 c0 c1 I Z)
def b_Mo_passAmongGrudges_141 (c0 c1 : ra_Sp) (I : Nat → ra_K) (Z : ra_R) : ra_K := w_c 1 <| w_il 6 <| w_i2 (fun x y => x <<< (y &&& 31)) <| (b_Mo_passAmongGrudges_149 c0 c1 I Z)
def b_Mo_passAmongGrudges_113 (c0 c1 : ra_Sp) (I : Nat → ra_K) (Z : ra_R) : ra_K := w_al 0 <| w_gr 6 2 <| w_gr 4 2 <| w_il 5 <| w_ald <| w_is 6 <| w_il 4 <| w_al 0 <| w_gr 6 2 <| w_gr 4 6 <| w_il 6 <| w_ald <| w_il 3 <| w_b2 (fun x y => y < x) (b_Mo_passAmongGrudges_148 c0 c1 I Z) (b_Mo_passAmongGrudges_141 c0 c1 I Z)
def b_Mo_passAmongGrudges_101 (c0 c1 : ra_Sp) (I : Nat → ra_K) (Z : ra_R) : ra_K := w_il 5 <| w_al 0 <| w_gr 6 2 <| w_gi 4 9 <| w_b2 (fun x y => y ≤ x) (b_Mo_passAmongGrudges_158 c0 c1 I Z) (b_Mo_passAmongGrudges_113 c0 c1 I Z)
def b_Mo_passAmongGrudges_95 (c0 c1 : ra_Sp) (I : Nat → ra_K) (Z : ra_R) : ra_K := w_c 0 <| w_is 4 <| w_c 0 <| w_is 5 <| (I 101)
def b_Mo_passAmongGrudges_72 (c0 c1 : ra_Sp) (I : Nat → ra_K) (Z : ra_R) : ra_K := w_al 0 <| w_gr 6 2 <| w_al 0 <| w_gr 6 1 <| w_gr 3 0 <| w_il 4 <| w_ald <| w_cv c1 2 4 <| w_inc 4 1 <| (I 60)
def b_Mo_passAmongGrudges_60 (c0 c1 : ra_Sp) (I : Nat → ra_K) (Z : ra_R) : ra_K := w_il 4 <| w_al 0 <| w_gr 6 1 <| w_gi 3 1 <| w_b2 (fun x y => y ≤ x) (b_Mo_passAmongGrudges_95 c0 c1 I Z) (b_Mo_passAmongGrudges_72 c0 c1 I Z)
def b_Mo_passAmongGrudges_40 (c0 c1 : ra_Sp) (I : Nat → ra_K) (Z : ra_R) : ra_K := w_al 0 <| w_gr 6 2 <| w_gr 4 3 <| w_il 1 <| w_il 2 <| w_ast <| w_al 0 <| w_gr 6 2 <| w_cv c0 1 4 <| w_c 0 <| w_is 4 <| (I 60)
def b_Mo_passAmongGrudges_15 (c0 c1 : ra_Sp) (I : Nat → ra_K) (Z : ra_R) : ra_K := w_al 0 <| w_gr 6 2 <| w_gr 4 3 <| w_al 0 <| w_gr 6 2 <| w_gr 4 2 <| w_il 4 <| w_ald <| w_c 1 <| w_ast <| w_inc 4 1 <| (I 3)
def b_Mo_passAmongGrudges_3 (c0 c1 : ra_Sp) (I : Nat → ra_K) (Z : ra_R) : ra_K := w_il 4 <| w_al 0 <| w_gr 6 2 <| w_gi 4 9 <| w_b2 (fun x y => y ≤ x) (b_Mo_passAmongGrudges_40 c0 c1 I Z) (b_Mo_passAmongGrudges_15 c0 c1 I Z)
def b_Mo_passAmongGrudges_0 (c0 c1 : ra_Sp) (I : Nat → ra_K) (Z : ra_R) : ra_K := w_c 0 <| w_is 4 <| (I 3)
theorem o_Mo_passAmongGrudges_158 {X : ra_X} {p : Program} {l : Launch} {e : Env} {s : State} {m : MethodId} {args : Array Value} {below : List Frame} {meth : Method} {c : Code} {Z : ra_R} {c0 c1 : ra_Sp}  (h0 : ra_MOK l X mi_Co_begin c0) (h1 : ra_MOK l X mi_Co_pass c1) (F : ra_Fx X p rm_Mo_passAmongGrudges s m args c prog_6_method_4_code 7 cn_Mo) (hr : meth.sig.returnType = none) (hlk : meth.locks = false) {I : Nat → ra_K} (hI : ∀ t ∈ [3, 60, 101], ra_At X p l e rm_Mo_passAmongGrudges s m args below meth c 7 (MQ below (ra_Qc X Z) args s 0 0 (ra_A X)) (I t) t) : ra_At X p l e rm_Mo_passAmongGrudges s m args below meth c 7 (MQ below (ra_Qc X Z) args s 0 0 (ra_A X)) (b_Mo_passAmongGrudges_158 c0 c1 I Z) 158 :=
  r_aload_n F d_Mo_passAmongGrudges_158 rfl <| r_getR F cg_Mo (j := 6) (by decide) rfl fl_Mo_21 d_Mo_passAmongGrudges_159 <| r_iload_n F d_Mo_passAmongGrudges_162 rfl <| r_iconst F d_Mo_passAmongGrudges_163 (by decide) <| r_imul F d_Mo_passAmongGrudges_164 <| r_iload_n F d_Mo_passAmongGrudges_165 rfl <| r_iadd F d_Mo_passAmongGrudges_166 <| r_iload F d_Mo_passAmongGrudges_167 <| r_iastore F d_Mo_passAmongGrudges_169 <| r_return F hr hlk d_Mo_passAmongGrudges_170
theorem o_Mo_passAmongGrudges_149 {X : ra_X} {p : Program} {l : Launch} {e : Env} {s : State} {m : MethodId} {args : Array Value} {below : List Frame} {meth : Method} {c : Code} {Z : ra_R} {c0 c1 : ra_Sp}  (h0 : ra_MOK l X mi_Co_begin c0) (h1 : ra_MOK l X mi_Co_pass c1) (F : ra_Fx X p rm_Mo_passAmongGrudges s m args c prog_6_method_4_code 7 cn_Mo) (hr : meth.sig.returnType = none) (hlk : meth.locks = false) {I : Nat → ra_K} (hI : ∀ t ∈ [3, 60, 101], ra_At X p l e rm_Mo_passAmongGrudges s m args below meth c 7 (MQ below (ra_Qc X Z) args s 0 0 (ra_A X)) (I t) t) : ra_At X p l e rm_Mo_passAmongGrudges s m args below meth c 7 (MQ below (ra_Qc X Z) args s 0 0 (ra_A X)) (b_Mo_passAmongGrudges_149 c0 c1 I Z) 149 :=
  r_ior F d_Mo_passAmongGrudges_149 <| r_istore F d_Mo_passAmongGrudges_150 (by decide) <| r_iinc F d_Mo_passAmongGrudges_152 (by decide) (by decide) <| r_goto F d_Mo_passAmongGrudges_155 (by decide) (hI 101 (by decide))
theorem o_Mo_passAmongGrudges_148 {X : ra_X} {p : Program} {l : Launch} {e : Env} {s : State} {m : MethodId} {args : Array Value} {below : List Frame} {meth : Method} {c : Code} {Z : ra_R} {c0 c1 : ra_Sp}  (h0 : ra_MOK l X mi_Co_begin c0) (h1 : ra_MOK l X mi_Co_pass c1) (F : ra_Fx X p rm_Mo_passAmongGrudges s m args c prog_6_method_4_code 7 cn_Mo) (hr : meth.sig.returnType = none) (hlk : meth.locks = false) {I : Nat → ra_K} (hI : ∀ t ∈ [3, 60, 101], ra_At X p l e rm_Mo_passAmongGrudges s m args below meth c 7 (MQ below (ra_Qc X Z) args s 0 0 (ra_A X)) (I t) t) : ra_At X p l e rm_Mo_passAmongGrudges s m args below meth c 7 (MQ below (ra_Qc X Z) args s 0 0 (ra_A X)) (b_Mo_passAmongGrudges_148 c0 c1 I Z) 148 :=
  r_iconst F d_Mo_passAmongGrudges_148 (by decide) <| (o_Mo_passAmongGrudges_149 h0 h1 F hr hlk hI)
theorem o_Mo_passAmongGrudges_141 {X : ra_X} {p : Program} {l : Launch} {e : Env} {s : State} {m : MethodId} {args : Array Value} {below : List Frame} {meth : Method} {c : Code} {Z : ra_R} {c0 c1 : ra_Sp}  (h0 : ra_MOK l X mi_Co_begin c0) (h1 : ra_MOK l X mi_Co_pass c1) (F : ra_Fx X p rm_Mo_passAmongGrudges s m args c prog_6_method_4_code 7 cn_Mo) (hr : meth.sig.returnType = none) (hlk : meth.locks = false) {I : Nat → ra_K} (hI : ∀ t ∈ [3, 60, 101], ra_At X p l e rm_Mo_passAmongGrudges s m args below meth c 7 (MQ below (ra_Qc X Z) args s 0 0 (ra_A X)) (I t) t) : ra_At X p l e rm_Mo_passAmongGrudges s m args below meth c 7 (MQ below (ra_Qc X Z) args s 0 0 (ra_A X)) (b_Mo_passAmongGrudges_141 c0 c1 I Z) 141 :=
  r_iconst F d_Mo_passAmongGrudges_141 (by decide) <| r_iload F d_Mo_passAmongGrudges_142 <| r_ishl F d_Mo_passAmongGrudges_144 <| r_goto F d_Mo_passAmongGrudges_145 (by decide) (o_Mo_passAmongGrudges_149 h0 h1 F hr hlk hI)
theorem o_Mo_passAmongGrudges_113 {X : ra_X} {p : Program} {l : Launch} {e : Env} {s : State} {m : MethodId} {args : Array Value} {below : List Frame} {meth : Method} {c : Code} {Z : ra_R} {c0 c1 : ra_Sp}  (h0 : ra_MOK l X mi_Co_begin c0) (h1 : ra_MOK l X mi_Co_pass c1) (F : ra_Fx X p rm_Mo_passAmongGrudges s m args c prog_6_method_4_code 7 cn_Mo) (hr : meth.sig.returnType = none) (hlk : meth.locks = false) {I : Nat → ra_K} (hI : ∀ t ∈ [3, 60, 101], ra_At X p l e rm_Mo_passAmongGrudges s m args below meth c 7 (MQ below (ra_Qc X Z) args s 0 0 (ra_A X)) (I t) t) : ra_At X p l e rm_Mo_passAmongGrudges s m args below meth c 7 (MQ below (ra_Qc X Z) args s 0 0 (ra_A X)) (b_Mo_passAmongGrudges_113 c0 c1 I Z) 113 :=
  r_aload_n F d_Mo_passAmongGrudges_113 rfl <| r_getR F cg_Mo (j := 2) (by decide) rfl fl_Mo_41 d_Mo_passAmongGrudges_114 <| r_getR F cg_Co (j := 2) (by decide) rfl fl_Mo_60 d_Mo_passAmongGrudges_117 <| r_iload F d_Mo_passAmongGrudges_120 <| r_iaload F d_Mo_passAmongGrudges_122 <| r_istore F d_Mo_passAmongGrudges_123 (by decide) <| r_iload F d_Mo_passAmongGrudges_125 <| r_aload_n F d_Mo_passAmongGrudges_127 rfl <| r_getR F cg_Mo (j := 2) (by decide) rfl fl_Mo_41 d_Mo_passAmongGrudges_128 <| r_getR F cg_Co (j := 6) (by decide) rfl fl_Mo_86 d_Mo_passAmongGrudges_131 <| r_iload F d_Mo_passAmongGrudges_134 <| r_iaload F d_Mo_passAmongGrudges_136 <| r_iload_n F d_Mo_passAmongGrudges_137 rfl <| r_icmp_gt F d_Mo_passAmongGrudges_138 (by decide) (o_Mo_passAmongGrudges_148 h0 h1 F hr hlk hI) (o_Mo_passAmongGrudges_141 h0 h1 F hr hlk hI)
theorem o_Mo_passAmongGrudges_101 {X : ra_X} {p : Program} {l : Launch} {e : Env} {s : State} {m : MethodId} {args : Array Value} {below : List Frame} {meth : Method} {c : Code} {Z : ra_R} {c0 c1 : ra_Sp}  (h0 : ra_MOK l X mi_Co_begin c0) (h1 : ra_MOK l X mi_Co_pass c1) (F : ra_Fx X p rm_Mo_passAmongGrudges s m args c prog_6_method_4_code 7 cn_Mo) (hr : meth.sig.returnType = none) (hlk : meth.locks = false) {I : Nat → ra_K} (hI : ∀ t ∈ [3, 60, 101], ra_At X p l e rm_Mo_passAmongGrudges s m args below meth c 7 (MQ below (ra_Qc X Z) args s 0 0 (ra_A X)) (I t) t) : ra_At X p l e rm_Mo_passAmongGrudges s m args below meth c 7 (MQ below (ra_Qc X Z) args s 0 0 (ra_A X)) (b_Mo_passAmongGrudges_101 c0 c1 I Z) 101 :=
  r_iload F d_Mo_passAmongGrudges_101 <| r_aload_n F d_Mo_passAmongGrudges_103 rfl <| r_getR F cg_Mo (j := 2) (by decide) rfl fl_Mo_41 d_Mo_passAmongGrudges_104 <| r_getI F cg_Co (j := 9) (by decide) rfl fl_Mo_57 d_Mo_passAmongGrudges_107 <| r_icmp_ge F d_Mo_passAmongGrudges_110 (by decide) (o_Mo_passAmongGrudges_158 h0 h1 F hr hlk hI) (o_Mo_passAmongGrudges_113 h0 h1 F hr hlk hI)
theorem o_Mo_passAmongGrudges_95 {X : ra_X} {p : Program} {l : Launch} {e : Env} {s : State} {m : MethodId} {args : Array Value} {below : List Frame} {meth : Method} {c : Code} {Z : ra_R} {c0 c1 : ra_Sp}  (h0 : ra_MOK l X mi_Co_begin c0) (h1 : ra_MOK l X mi_Co_pass c1) (F : ra_Fx X p rm_Mo_passAmongGrudges s m args c prog_6_method_4_code 7 cn_Mo) (hr : meth.sig.returnType = none) (hlk : meth.locks = false) {I : Nat → ra_K} (hI : ∀ t ∈ [3, 60, 101], ra_At X p l e rm_Mo_passAmongGrudges s m args below meth c 7 (MQ below (ra_Qc X Z) args s 0 0 (ra_A X)) (I t) t) : ra_At X p l e rm_Mo_passAmongGrudges s m args below meth c 7 (MQ below (ra_Qc X Z) args s 0 0 (ra_A X)) (b_Mo_passAmongGrudges_95 c0 c1 I Z) 95 :=
  r_iconst F d_Mo_passAmongGrudges_95 (by decide) <| r_istore F d_Mo_passAmongGrudges_96 (by decide) <| r_iconst F d_Mo_passAmongGrudges_98 (by decide) <| r_istore F d_Mo_passAmongGrudges_99 (by decide) <| (hI 101 (by decide))
theorem o_Mo_passAmongGrudges_72 {X : ra_X} {p : Program} {l : Launch} {e : Env} {s : State} {m : MethodId} {args : Array Value} {below : List Frame} {meth : Method} {c : Code} {Z : ra_R} {c0 c1 : ra_Sp}  (h0 : ra_MOK l X mi_Co_begin c0) (h1 : ra_MOK l X mi_Co_pass c1) (F : ra_Fx X p rm_Mo_passAmongGrudges s m args c prog_6_method_4_code 7 cn_Mo) (hr : meth.sig.returnType = none) (hlk : meth.locks = false) {I : Nat → ra_K} (hI : ∀ t ∈ [3, 60, 101], ra_At X p l e rm_Mo_passAmongGrudges s m args below meth c 7 (MQ below (ra_Qc X Z) args s 0 0 (ra_A X)) (I t) t) : ra_At X p l e rm_Mo_passAmongGrudges s m args below meth c 7 (MQ below (ra_Qc X Z) args s 0 0 (ra_A X)) (b_Mo_passAmongGrudges_72 c0 c1 I Z) 72 :=
  r_aload_n F d_Mo_passAmongGrudges_72 rfl <| r_getR F cg_Mo (j := 2) (by decide) rfl fl_Mo_41 d_Mo_passAmongGrudges_73 <| r_aload_n F d_Mo_passAmongGrudges_76 rfl <| r_getR F cg_Mo (j := 1) (by decide) rfl fl_Mo_32 d_Mo_passAmongGrudges_77 <| r_getR F cg_Wt (j := 0) (by decide) rfl fl_Mo_80 d_Mo_passAmongGrudges_80 <| r_iload F d_Mo_passAmongGrudges_83 <| r_iaload F d_Mo_passAmongGrudges_85 <| r_callV F h1 (co_Co_pass (by decide +kernel) (by decide +kernel)) ⟨rfl, by decide +kernel⟩ ⟨rfl, by decide⟩ ml_Mo_83 im_Co_pass se_Co_pass d_Mo_passAmongGrudges_86 <| r_iinc F d_Mo_passAmongGrudges_89 (by decide) (by decide) <| r_goto F d_Mo_passAmongGrudges_92 (by decide) (hI 60 (by decide))
theorem o_Mo_passAmongGrudges_60 {X : ra_X} {p : Program} {l : Launch} {e : Env} {s : State} {m : MethodId} {args : Array Value} {below : List Frame} {meth : Method} {c : Code} {Z : ra_R} {c0 c1 : ra_Sp}  (h0 : ra_MOK l X mi_Co_begin c0) (h1 : ra_MOK l X mi_Co_pass c1) (F : ra_Fx X p rm_Mo_passAmongGrudges s m args c prog_6_method_4_code 7 cn_Mo) (hr : meth.sig.returnType = none) (hlk : meth.locks = false) {I : Nat → ra_K} (hI : ∀ t ∈ [3, 60, 101], ra_At X p l e rm_Mo_passAmongGrudges s m args below meth c 7 (MQ below (ra_Qc X Z) args s 0 0 (ra_A X)) (I t) t) : ra_At X p l e rm_Mo_passAmongGrudges s m args below meth c 7 (MQ below (ra_Qc X Z) args s 0 0 (ra_A X)) (b_Mo_passAmongGrudges_60 c0 c1 I Z) 60 :=
  r_iload F d_Mo_passAmongGrudges_60 <| r_aload_n F d_Mo_passAmongGrudges_62 rfl <| r_getR F cg_Mo (j := 1) (by decide) rfl fl_Mo_32 d_Mo_passAmongGrudges_63 <| r_getI F cg_Wt (j := 1) (by decide) rfl fl_Mo_77 d_Mo_passAmongGrudges_66 <| r_icmp_ge F d_Mo_passAmongGrudges_69 (by decide) (o_Mo_passAmongGrudges_95 h0 h1 F hr hlk hI) (o_Mo_passAmongGrudges_72 h0 h1 F hr hlk hI)
theorem o_Mo_passAmongGrudges_40 {X : ra_X} {p : Program} {l : Launch} {e : Env} {s : State} {m : MethodId} {args : Array Value} {below : List Frame} {meth : Method} {c : Code} {Z : ra_R} {c0 c1 : ra_Sp}  (h0 : ra_MOK l X mi_Co_begin c0) (h1 : ra_MOK l X mi_Co_pass c1) (F : ra_Fx X p rm_Mo_passAmongGrudges s m args c prog_6_method_4_code 7 cn_Mo) (hr : meth.sig.returnType = none) (hlk : meth.locks = false) {I : Nat → ra_K} (hI : ∀ t ∈ [3, 60, 101], ra_At X p l e rm_Mo_passAmongGrudges s m args below meth c 7 (MQ below (ra_Qc X Z) args s 0 0 (ra_A X)) (I t) t) : ra_At X p l e rm_Mo_passAmongGrudges s m args below meth c 7 (MQ below (ra_Qc X Z) args s 0 0 (ra_A X)) (b_Mo_passAmongGrudges_40 c0 c1 I Z) 40 :=
  r_aload_n F d_Mo_passAmongGrudges_40 rfl <| r_getR F cg_Mo (j := 2) (by decide) rfl fl_Mo_41 d_Mo_passAmongGrudges_41 <| r_getR F cg_Co (j := 3) (by decide) rfl fl_Mo_71 d_Mo_passAmongGrudges_44 <| r_iload_n F d_Mo_passAmongGrudges_47 rfl <| r_iload_n F d_Mo_passAmongGrudges_48 rfl <| r_iastore F d_Mo_passAmongGrudges_49 <| r_aload_n F d_Mo_passAmongGrudges_50 rfl <| r_getR F cg_Mo (j := 2) (by decide) rfl fl_Mo_41 d_Mo_passAmongGrudges_51 <| r_callV F h0 (co_Co_begin (by decide +kernel) (by decide +kernel)) ⟨rfl, by decide +kernel⟩ ⟨rfl, by decide⟩ ml_Mo_74 im_Co_begin se_Co_begin d_Mo_passAmongGrudges_54 <| r_iconst F d_Mo_passAmongGrudges_57 (by decide) <| r_istore F d_Mo_passAmongGrudges_58 (by decide) <| (hI 60 (by decide))
theorem o_Mo_passAmongGrudges_15 {X : ra_X} {p : Program} {l : Launch} {e : Env} {s : State} {m : MethodId} {args : Array Value} {below : List Frame} {meth : Method} {c : Code} {Z : ra_R} {c0 c1 : ra_Sp}  (h0 : ra_MOK l X mi_Co_begin c0) (h1 : ra_MOK l X mi_Co_pass c1) (F : ra_Fx X p rm_Mo_passAmongGrudges s m args c prog_6_method_4_code 7 cn_Mo) (hr : meth.sig.returnType = none) (hlk : meth.locks = false) {I : Nat → ra_K} (hI : ∀ t ∈ [3, 60, 101], ra_At X p l e rm_Mo_passAmongGrudges s m args below meth c 7 (MQ below (ra_Qc X Z) args s 0 0 (ra_A X)) (I t) t) : ra_At X p l e rm_Mo_passAmongGrudges s m args below meth c 7 (MQ below (ra_Qc X Z) args s 0 0 (ra_A X)) (b_Mo_passAmongGrudges_15 c0 c1 I Z) 15 :=
  r_aload_n F d_Mo_passAmongGrudges_15 rfl <| r_getR F cg_Mo (j := 2) (by decide) rfl fl_Mo_41 d_Mo_passAmongGrudges_16 <| r_getR F cg_Co (j := 3) (by decide) rfl fl_Mo_71 d_Mo_passAmongGrudges_19 <| r_aload_n F d_Mo_passAmongGrudges_22 rfl <| r_getR F cg_Mo (j := 2) (by decide) rfl fl_Mo_41 d_Mo_passAmongGrudges_23 <| r_getR F cg_Co (j := 2) (by decide) rfl fl_Mo_60 d_Mo_passAmongGrudges_26 <| r_iload F d_Mo_passAmongGrudges_29 <| r_iaload F d_Mo_passAmongGrudges_31 <| r_iconst F d_Mo_passAmongGrudges_32 (by decide) <| r_iastore F d_Mo_passAmongGrudges_33 <| r_iinc F d_Mo_passAmongGrudges_34 (by decide) (by decide) <| r_goto F d_Mo_passAmongGrudges_37 (by decide) (hI 3 (by decide))
theorem o_Mo_passAmongGrudges_3 {X : ra_X} {p : Program} {l : Launch} {e : Env} {s : State} {m : MethodId} {args : Array Value} {below : List Frame} {meth : Method} {c : Code} {Z : ra_R} {c0 c1 : ra_Sp}  (h0 : ra_MOK l X mi_Co_begin c0) (h1 : ra_MOK l X mi_Co_pass c1) (F : ra_Fx X p rm_Mo_passAmongGrudges s m args c prog_6_method_4_code 7 cn_Mo) (hr : meth.sig.returnType = none) (hlk : meth.locks = false) {I : Nat → ra_K} (hI : ∀ t ∈ [3, 60, 101], ra_At X p l e rm_Mo_passAmongGrudges s m args below meth c 7 (MQ below (ra_Qc X Z) args s 0 0 (ra_A X)) (I t) t) : ra_At X p l e rm_Mo_passAmongGrudges s m args below meth c 7 (MQ below (ra_Qc X Z) args s 0 0 (ra_A X)) (b_Mo_passAmongGrudges_3 c0 c1 I Z) 3 :=
  r_iload F d_Mo_passAmongGrudges_3 <| r_aload_n F d_Mo_passAmongGrudges_5 rfl <| r_getR F cg_Mo (j := 2) (by decide) rfl fl_Mo_41 d_Mo_passAmongGrudges_6 <| r_getI F cg_Co (j := 9) (by decide) rfl fl_Mo_57 d_Mo_passAmongGrudges_9 <| r_icmp_ge F d_Mo_passAmongGrudges_12 (by decide) (o_Mo_passAmongGrudges_40 h0 h1 F hr hlk hI) (o_Mo_passAmongGrudges_15 h0 h1 F hr hlk hI)
theorem o_Mo_passAmongGrudges_0 {X : ra_X} {p : Program} {l : Launch} {e : Env} {s : State} {m : MethodId} {args : Array Value} {below : List Frame} {meth : Method} {c : Code} {Z : ra_R} {c0 c1 : ra_Sp}  (h0 : ra_MOK l X mi_Co_begin c0) (h1 : ra_MOK l X mi_Co_pass c1) (F : ra_Fx X p rm_Mo_passAmongGrudges s m args c prog_6_method_4_code 7 cn_Mo) (hr : meth.sig.returnType = none) (hlk : meth.locks = false) {I : Nat → ra_K} (hI : ∀ t ∈ [3, 60, 101], ra_At X p l e rm_Mo_passAmongGrudges s m args below meth c 7 (MQ below (ra_Qc X Z) args s 0 0 (ra_A X)) (I t) t) : ra_At X p l e rm_Mo_passAmongGrudges s m args below meth c 7 (MQ below (ra_Qc X Z) args s 0 0 (ra_A X)) (b_Mo_passAmongGrudges_0 c0 c1 I Z) 0 :=
  r_iconst F d_Mo_passAmongGrudges_0 (by decide) <| r_istore F d_Mo_passAmongGrudges_1 (by decide) <| (hI 3 (by decide))
theorem g_Mo_passAmongGrudges {l : Launch} {X : ra_X} {c0 c1 : ra_Sp}  (h0 : ra_MOK l X mi_Co_begin c0) (h1 : ra_MOK l X mi_Co_pass c1) (sp : ra_Sp) (I : ra_R → List Value → ra_St → Nat → ra_M → ra_K) (ve : ∀ as σ Z, ra_c1 as = true → as.length = 4 → sp as σ Z → b_Mo_passAmongGrudges_0 c0 c1 (ra_I (I Z as σ)) Z (ra_pad 7 as) [] σ) (v3 : ∀ as σ Z, sp as σ Z → ∀ μ L S σ1, I Z as σ 3 μ L S σ1 → b_Mo_passAmongGrudges_3 c0 c1 (ra_J (I Z as σ) μ) Z L S σ1) (v60 : ∀ as σ Z, sp as σ Z → ∀ μ L S σ1, I Z as σ 60 μ L S σ1 → b_Mo_passAmongGrudges_60 c0 c1 (ra_J (I Z as σ) μ) Z L S σ1) (v101 : ∀ as σ Z, sp as σ Z → ∀ μ L S σ1, I Z as σ 101 μ L S σ1 → b_Mo_passAmongGrudges_101 c0 c1 (ra_J (I Z as σ) μ) Z L S σ1) : ra_MOK l X mi_Mo_passAmongGrudges sp := by
  refine ra_enter (k := fun Z as σ => b_Mo_passAmongGrudges_0 c0 c1 (ra_I (I Z as σ)) Z) cn_Mo rfl (by decide +kernel) ⟨by decide +kernel, by decide +kernel⟩ (by decide +kernel) ?_ ve
  intro p e s m args below meth c Z as σ hsp F hr hlk
  refine o_Mo_passAmongGrudges_0 h0 h1 F hr hlk (ra_cuts (b := fun t J => if t = 3 then b_Mo_passAmongGrudges_3 c0 c1 J Z else if t = 60 then b_Mo_passAmongGrudges_60 c0 c1 J Z else if t = 101 then b_Mo_passAmongGrudges_101 c0 c1 J Z else fun _ _ _ => False) ?_ ?_)
  · intro t ht J hJ
    simp only [List.mem_cons, List.not_mem_nil, or_false] at ht
    rcases ht with rfl | rfl | rfl
    · exact o_Mo_passAmongGrudges_3 h0 h1 F hr hlk hJ
    · exact o_Mo_passAmongGrudges_60 h0 h1 F hr hlk hJ
    · exact o_Mo_passAmongGrudges_101 h0 h1 F hr hlk hJ
  · intro t ht μ L S σ1 hI
    simp only [List.mem_cons, List.not_mem_nil, or_false] at ht
    rcases ht with rfl | rfl | rfl
    · exact v3 as σ Z hsp μ L S σ1 hI
    · exact v60 as σ Z hsp μ L S σ1 hI
    · exact v101 as σ Z hsp μ L S σ1 hI

theorem d_Mo_keepsDry_0 : decode prog_6_method_5_code 0 = .ok (.iload_n 1, 1) := by decide +kernel
theorem d_Mo_keepsDry_1 : decode prog_6_method_5_code 1 = .ok (.istore_n 2, 1) := by decide +kernel
theorem d_Mo_keepsDry_2 : decode prog_6_method_5_code 2 = .ok (.aload_n 0, 1) := by decide +kernel
theorem d_Mo_keepsDry_3 : decode prog_6_method_5_code 3 = .ok (.getfield 41, 3) := by decide +kernel
theorem d_Mo_keepsDry_6 : decode prog_6_method_5_code 6 = .ok (.getfield 57, 3) := by decide +kernel
theorem d_Mo_keepsDry_9 : decode prog_6_method_5_code 9 = .ok (.iconst 1, 1) := by decide +kernel
theorem d_Mo_keepsDry_10 : decode prog_6_method_5_code 10 = .ok (.isub, 1) := by decide +kernel
theorem d_Mo_keepsDry_11 : decode prog_6_method_5_code 11 = .ok (.istore_n 3, 1) := by decide +kernel
theorem d_Mo_keepsDry_12 : decode prog_6_method_5_code 12 = .ok (.iload_n 3, 1) := by decide +kernel
theorem d_Mo_keepsDry_13 : decode prog_6_method_5_code 13 = .ok (.ifCond .lt 33, 3) := by decide +kernel
theorem d_Mo_keepsDry_16 : decode prog_6_method_5_code 16 = .ok (.aload_n 0, 1) := by decide +kernel
theorem d_Mo_keepsDry_17 : decode prog_6_method_5_code 17 = .ok (.getfield 41, 3) := by decide +kernel
theorem d_Mo_keepsDry_20 : decode prog_6_method_5_code 20 = .ok (.getfield 71, 3) := by decide +kernel
theorem d_Mo_keepsDry_23 : decode prog_6_method_5_code 23 = .ok (.aload_n 0, 1) := by decide +kernel
theorem d_Mo_keepsDry_24 : decode prog_6_method_5_code 24 = .ok (.getfield 41, 3) := by decide +kernel
theorem d_Mo_keepsDry_27 : decode prog_6_method_5_code 27 = .ok (.getfield 60, 3) := by decide +kernel
theorem d_Mo_keepsDry_30 : decode prog_6_method_5_code 30 = .ok (.iload_n 3, 1) := by decide +kernel
theorem d_Mo_keepsDry_31 : decode prog_6_method_5_code 31 = .ok (.iaload, 1) := by decide +kernel
theorem d_Mo_keepsDry_32 : decode prog_6_method_5_code 32 = .ok (.iload_n 2, 1) := by decide +kernel
theorem d_Mo_keepsDry_33 : decode prog_6_method_5_code 33 = .ok (.iconst 3, 1) := by decide +kernel
theorem d_Mo_keepsDry_34 : decode prog_6_method_5_code 34 = .ok (.iand, 1) := by decide +kernel
theorem d_Mo_keepsDry_35 : decode prog_6_method_5_code 35 = .ok (.iastore, 1) := by decide +kernel
theorem d_Mo_keepsDry_36 : decode prog_6_method_5_code 36 = .ok (.iload_n 2, 1) := by decide +kernel
theorem d_Mo_keepsDry_37 : decode prog_6_method_5_code 37 = .ok (.iconst 2, 1) := by decide +kernel
theorem d_Mo_keepsDry_38 : decode prog_6_method_5_code 38 = .ok (.ishr, 1) := by decide +kernel
theorem d_Mo_keepsDry_39 : decode prog_6_method_5_code 39 = .ok (.istore_n 2, 1) := by decide +kernel
theorem d_Mo_keepsDry_40 : decode prog_6_method_5_code 40 = .ok (.iinc 3 (-1), 3) := by decide +kernel
theorem d_Mo_keepsDry_43 : decode prog_6_method_5_code 43 = .ok (.goto (-31), 3) := by decide +kernel
theorem d_Mo_keepsDry_46 : decode prog_6_method_5_code 46 = .ok (.iconst 0, 1) := by decide +kernel
theorem d_Mo_keepsDry_47 : decode prog_6_method_5_code 47 = .ok (.istore_n 3, 1) := by decide +kernel
theorem d_Mo_keepsDry_48 : decode prog_6_method_5_code 48 = .ok (.iload_n 3, 1) := by decide +kernel
theorem d_Mo_keepsDry_49 : decode prog_6_method_5_code 49 = .ok (.aload_n 0, 1) := by decide +kernel
theorem d_Mo_keepsDry_50 : decode prog_6_method_5_code 50 = .ok (.getfield 41, 3) := by decide +kernel
theorem d_Mo_keepsDry_53 : decode prog_6_method_5_code 53 = .ok (.getfield 57, 3) := by decide +kernel
theorem d_Mo_keepsDry_56 : decode prog_6_method_5_code 56 = .ok (.if_icmp .ge 112, 3) := by decide +kernel
theorem d_Mo_keepsDry_59 : decode prog_6_method_5_code 59 = .ok (.aload_n 0, 1) := by decide +kernel
theorem d_Mo_keepsDry_60 : decode prog_6_method_5_code 60 = .ok (.getfield 28, 3) := by decide +kernel
theorem d_Mo_keepsDry_63 : decode prog_6_method_5_code 63 = .ok (.getfield 89, 3) := by decide +kernel
theorem d_Mo_keepsDry_66 : decode prog_6_method_5_code 66 = .ok (.aload_n 0, 1) := by decide +kernel
theorem d_Mo_keepsDry_67 : decode prog_6_method_5_code 67 = .ok (.getfield 41, 3) := by decide +kernel
theorem d_Mo_keepsDry_70 : decode prog_6_method_5_code 70 = .ok (.getfield 60, 3) := by decide +kernel
theorem d_Mo_keepsDry_73 : decode prog_6_method_5_code 73 = .ok (.iload_n 3, 1) := by decide +kernel
theorem d_Mo_keepsDry_74 : decode prog_6_method_5_code 74 = .ok (.iaload, 1) := by decide +kernel
theorem d_Mo_keepsDry_75 : decode prog_6_method_5_code 75 = .ok (.iaload, 1) := by decide +kernel
theorem d_Mo_keepsDry_76 : decode prog_6_method_5_code 76 = .ok (.istore 4, 2) := by decide +kernel
theorem d_Mo_keepsDry_78 : decode prog_6_method_5_code 78 = .ok (.iconst 1, 1) := by decide +kernel
theorem d_Mo_keepsDry_79 : decode prog_6_method_5_code 79 = .ok (.istore 5, 2) := by decide +kernel
theorem d_Mo_keepsDry_81 : decode prog_6_method_5_code 81 = .ok (.iload 5, 2) := by decide +kernel
theorem d_Mo_keepsDry_83 : decode prog_6_method_5_code 83 = .ok (.aload_n 0, 1) := by decide +kernel
theorem d_Mo_keepsDry_84 : decode prog_6_method_5_code 84 = .ok (.getfield 41, 3) := by decide +kernel
theorem d_Mo_keepsDry_87 : decode prog_6_method_5_code 87 = .ok (.getfield 57, 3) := by decide +kernel
theorem d_Mo_keepsDry_90 : decode prog_6_method_5_code 90 = .ok (.if_icmp .ge 35, 3) := by decide +kernel
theorem d_Mo_keepsDry_93 : decode prog_6_method_5_code 93 = .ok (.aload_n 0, 1) := by decide +kernel
theorem d_Mo_keepsDry_94 : decode prog_6_method_5_code 94 = .ok (.getfield 41, 3) := by decide +kernel
theorem d_Mo_keepsDry_97 : decode prog_6_method_5_code 97 = .ok (.getfield 71, 3) := by decide +kernel
theorem d_Mo_keepsDry_100 : decode prog_6_method_5_code 100 = .ok (.iload 4, 2) := by decide +kernel
theorem d_Mo_keepsDry_102 : decode prog_6_method_5_code 102 = .ok (.iaload, 1) := by decide +kernel
theorem d_Mo_keepsDry_103 : decode prog_6_method_5_code 103 = .ok (.iconst 1, 1) := by decide +kernel
theorem d_Mo_keepsDry_104 : decode prog_6_method_5_code 104 = .ok (.if_icmp .ne 21, 3) := by decide +kernel
theorem d_Mo_keepsDry_107 : decode prog_6_method_5_code 107 = .ok (.aload_n 0, 1) := by decide +kernel
theorem d_Mo_keepsDry_108 : decode prog_6_method_5_code 108 = .ok (.getfield 28, 3) := by decide +kernel
theorem d_Mo_keepsDry_111 : decode prog_6_method_5_code 111 = .ok (.getfield 89, 3) := by decide +kernel
theorem d_Mo_keepsDry_114 : decode prog_6_method_5_code 114 = .ok (.iload 4, 2) := by decide +kernel
theorem d_Mo_keepsDry_116 : decode prog_6_method_5_code 116 = .ok (.iaload, 1) := by decide +kernel
theorem d_Mo_keepsDry_117 : decode prog_6_method_5_code 117 = .ok (.istore 4, 2) := by decide +kernel
theorem d_Mo_keepsDry_119 : decode prog_6_method_5_code 119 = .ok (.iinc 5 1, 3) := by decide +kernel
theorem d_Mo_keepsDry_122 : decode prog_6_method_5_code 122 = .ok (.goto (-41), 3) := by decide +kernel
theorem d_Mo_keepsDry_125 : decode prog_6_method_5_code 125 = .ok (.aload_n 0, 1) := by decide +kernel
theorem d_Mo_keepsDry_126 : decode prog_6_method_5_code 126 = .ok (.getfield 21, 3) := by decide +kernel
theorem d_Mo_keepsDry_129 : decode prog_6_method_5_code 129 = .ok (.iload 4, 2) := by decide +kernel
theorem d_Mo_keepsDry_131 : decode prog_6_method_5_code 131 = .ok (.iconst 4, 1) := by decide +kernel
theorem d_Mo_keepsDry_132 : decode prog_6_method_5_code 132 = .ok (.imul, 1) := by decide +kernel
theorem d_Mo_keepsDry_133 : decode prog_6_method_5_code 133 = .ok (.aload_n 0, 1) := by decide +kernel
theorem d_Mo_keepsDry_134 : decode prog_6_method_5_code 134 = .ok (.getfield 41, 3) := by decide +kernel
theorem d_Mo_keepsDry_137 : decode prog_6_method_5_code 137 = .ok (.getfield 71, 3) := by decide +kernel
theorem d_Mo_keepsDry_140 : decode prog_6_method_5_code 140 = .ok (.iload 4, 2) := by decide +kernel
theorem d_Mo_keepsDry_142 : decode prog_6_method_5_code 142 = .ok (.iaload, 1) := by decide +kernel
theorem d_Mo_keepsDry_143 : decode prog_6_method_5_code 143 = .ok (.iadd, 1) := by decide +kernel
theorem d_Mo_keepsDry_144 : decode prog_6_method_5_code 144 = .ok (.iaload, 1) := by decide +kernel
theorem d_Mo_keepsDry_145 : decode prog_6_method_5_code 145 = .ok (.aload_n 0, 1) := by decide +kernel
theorem d_Mo_keepsDry_146 : decode prog_6_method_5_code 146 = .ok (.getfield 41, 3) := by decide +kernel
theorem d_Mo_keepsDry_149 : decode prog_6_method_5_code 149 = .ok (.getfield 60, 3) := by decide +kernel
theorem d_Mo_keepsDry_152 : decode prog_6_method_5_code 152 = .ok (.iload_n 3, 1) := by decide +kernel
theorem d_Mo_keepsDry_153 : decode prog_6_method_5_code 153 = .ok (.iaload, 1) := by decide +kernel
theorem d_Mo_keepsDry_154 : decode prog_6_method_5_code 154 = .ok (.invokestatic 92, 3) := by decide +kernel
theorem d_Mo_keepsDry_157 : decode prog_6_method_5_code 157 = .ok (.ifCond .ne 5, 3) := by decide +kernel
theorem d_Mo_keepsDry_160 : decode prog_6_method_5_code 160 = .ok (.iconst 0, 1) := by decide +kernel
theorem d_Mo_keepsDry_161 : decode prog_6_method_5_code 161 = .ok (.ireturn, 1) := by decide +kernel
theorem d_Mo_keepsDry_162 : decode prog_6_method_5_code 162 = .ok (.iinc 3 1, 3) := by decide +kernel
theorem d_Mo_keepsDry_165 : decode prog_6_method_5_code 165 = .ok (.goto (-117), 3) := by decide +kernel
theorem d_Mo_keepsDry_168 : decode prog_6_method_5_code 168 = .ok (.iconst 1, 1) := by decide +kernel
theorem d_Mo_keepsDry_169 : decode prog_6_method_5_code 169 = .ok (.ireturn, 1) := by decide +kernel
def b_Mo_keepsDry_168 (c0 : ra_Sp) (I : Nat → ra_K) (Z : ra_R) : ra_K := w_c 1 <| w_zr Z
def b_Mo_keepsDry_162 (c0 : ra_Sp) (I : Nat → ra_K) (Z : ra_R) : ra_K := w_inc 3 1 <| (I 48)
def b_Mo_keepsDry_160 (c0 : ra_Sp) (I : Nat → ra_K) (Z : ra_R) : ra_K := w_c 0 <| w_zr Z
def b_Mo_keepsDry_125 (c0 : ra_Sp) (I : Nat → ra_K) (Z : ra_R) : ra_K := w_al 0 <| w_gr 6 6 <| w_il 4 <| w_c 4 <| w_i2 (fun x y => x * y) <| w_al 0 <| w_gr 6 2 <| w_gr 4 3 <| w_il 4 <| w_ald <| w_i2 (fun x y => x + y) <| w_ald <| w_al 0 <| w_gr 6 2 <| w_gr 4 2 <| w_il 3 <| w_ald <| w_cs c0 2 <| w_b1 (fun x => x = 0) (b_Mo_keepsDry_160 c0 I Z) (b_Mo_keepsDry_162 c0 I Z)
def b_Mo_keepsDry_107 (c0 : ra_Sp) (I : Nat → ra_K) (Z : ra_R) : ra_K := w_al 0 <| w_gr 6 0 <| w_gr 1 6 <| w_il 4 <| w_ald <| w_is 4 <| w_inc 5 1 <| (I 81)
def b_Mo_keepsDry_93 (c0 : ra_Sp) (I : Nat → ra_K) (Z : ra_R) : ra_K := w_al 0 <| w_gr 6 2 <| w_gr 4 3 <| w_il 4 <| w_ald <| w_c 1 <| w_b2 (fun x y => x = y) (b_Mo_keepsDry_107 c0 I Z) (b_Mo_keepsDry_125 c0 I Z)
def b_Mo_keepsDry_81 (c0 : ra_Sp) (I : Nat → ra_K) (Z : ra_R) : ra_K := w_il 5 <| w_al 0 <| w_gr 6 2 <| w_gi 4 9 <| w_b2 (fun x y => y ≤ x) (b_Mo_keepsDry_125 c0 I Z) (b_Mo_keepsDry_93 c0 I Z)
def b_Mo_keepsDry_59 (c0 : ra_Sp) (I : Nat → ra_K) (Z : ra_R) : ra_K := w_al 0 <| w_gr 6 0 <| w_gr 1 6 <| w_al 0 <| w_gr 6 2 <| w_gr 4 2 <| w_il 3 <| w_ald <| w_ald <| w_is 4 <| w_c 1 <| w_is 5 <| (I 81)
def b_Mo_keepsDry_48 (c0 : ra_Sp) (I : Nat → ra_K) (Z : ra_R) : ra_K := w_il 3 <| w_al 0 <| w_gr 6 2 <| w_gi 4 9 <| w_b2 (fun x y => y ≤ x) (b_Mo_keepsDry_168 c0 I Z) (b_Mo_keepsDry_59 c0 I Z)
def b_Mo_keepsDry_46 (c0 : ra_Sp) (I : Nat → ra_K) (Z : ra_R) : ra_K := w_c 0 <| w_is 3 <| (I 48)
def b_Mo_keepsDry_16 (c0 : ra_Sp) (I : Nat → ra_K) (Z : ra_R) : ra_K := w_al 0 <| w_gr 6 2 <| w_gr 4 3 <| w_al 0 <| w_gr 6 2 <| w_gr 4 2 <| w_il 3 <| w_ald <| w_il 2 <| w_c 3 <| w_i2 (fun x y => x &&& y) <| w_ast <| w_il 2 <| w_c 2 <| w_i2 (fun x y => x >>> (y &&& 31)) <| w_is 2 <| w_inc 3 (-1) <| (I 12)
def b_Mo_keepsDry_12 (c0 : ra_Sp) (I : Nat → ra_K) (Z : ra_R) : ra_K := w_il 3 <| w_b1 (fun x => x < 0) (b_Mo_keepsDry_46 c0 I Z) (b_Mo_keepsDry_16 c0 I Z)
def b_Mo_keepsDry_0 (c0 : ra_Sp) (I : Nat → ra_K) (Z : ra_R) : ra_K := w_il 1 <| w_is 2 <| w_al 0 <| w_gr 6 2 <| w_gi 4 9 <| w_c 1 <| w_i2 (fun x y => x - y) <| w_is 3 <| (I 12)
theorem o_Mo_keepsDry_168 {X : ra_X} {p : Program} {l : Launch} {e : Env} {s : State} {m : MethodId} {args : Array Value} {below : List Frame} {meth : Method} {c : Code} {Z : ra_R} {c0 : ra_Sp}  (h0 : ra_MOK l X mi_R_has c0) (F : ra_Fx X p rm_Mo_keepsDry s m args c prog_6_method_5_code 6 cn_Mo) (hr : meth.sig.returnType = (some .boolean)) (hlk : meth.locks = false) {I : Nat → ra_K} (hI : ∀ t ∈ [12, 48, 81], ra_At X p l e rm_Mo_keepsDry s m args below meth c 6 (MQ below (ra_Qc X Z) args s 0 0 (ra_A X)) (I t) t) : ra_At X p l e rm_Mo_keepsDry s m args below meth c 6 (MQ below (ra_Qc X Z) args s 0 0 (ra_A X)) (b_Mo_keepsDry_168 c0 I Z) 168 :=
  r_iconst F d_Mo_keepsDry_168 (by decide) <| r_zreturn F hr hlk d_Mo_keepsDry_169
theorem o_Mo_keepsDry_162 {X : ra_X} {p : Program} {l : Launch} {e : Env} {s : State} {m : MethodId} {args : Array Value} {below : List Frame} {meth : Method} {c : Code} {Z : ra_R} {c0 : ra_Sp}  (h0 : ra_MOK l X mi_R_has c0) (F : ra_Fx X p rm_Mo_keepsDry s m args c prog_6_method_5_code 6 cn_Mo) (hr : meth.sig.returnType = (some .boolean)) (hlk : meth.locks = false) {I : Nat → ra_K} (hI : ∀ t ∈ [12, 48, 81], ra_At X p l e rm_Mo_keepsDry s m args below meth c 6 (MQ below (ra_Qc X Z) args s 0 0 (ra_A X)) (I t) t) : ra_At X p l e rm_Mo_keepsDry s m args below meth c 6 (MQ below (ra_Qc X Z) args s 0 0 (ra_A X)) (b_Mo_keepsDry_162 c0 I Z) 162 :=
  r_iinc F d_Mo_keepsDry_162 (by decide) (by decide) <| r_goto F d_Mo_keepsDry_165 (by decide) (hI 48 (by decide))
theorem o_Mo_keepsDry_160 {X : ra_X} {p : Program} {l : Launch} {e : Env} {s : State} {m : MethodId} {args : Array Value} {below : List Frame} {meth : Method} {c : Code} {Z : ra_R} {c0 : ra_Sp}  (h0 : ra_MOK l X mi_R_has c0) (F : ra_Fx X p rm_Mo_keepsDry s m args c prog_6_method_5_code 6 cn_Mo) (hr : meth.sig.returnType = (some .boolean)) (hlk : meth.locks = false) {I : Nat → ra_K} (hI : ∀ t ∈ [12, 48, 81], ra_At X p l e rm_Mo_keepsDry s m args below meth c 6 (MQ below (ra_Qc X Z) args s 0 0 (ra_A X)) (I t) t) : ra_At X p l e rm_Mo_keepsDry s m args below meth c 6 (MQ below (ra_Qc X Z) args s 0 0 (ra_A X)) (b_Mo_keepsDry_160 c0 I Z) 160 :=
  r_iconst F d_Mo_keepsDry_160 (by decide) <| r_zreturn F hr hlk d_Mo_keepsDry_161
theorem o_Mo_keepsDry_125 {X : ra_X} {p : Program} {l : Launch} {e : Env} {s : State} {m : MethodId} {args : Array Value} {below : List Frame} {meth : Method} {c : Code} {Z : ra_R} {c0 : ra_Sp}  (h0 : ra_MOK l X mi_R_has c0) (F : ra_Fx X p rm_Mo_keepsDry s m args c prog_6_method_5_code 6 cn_Mo) (hr : meth.sig.returnType = (some .boolean)) (hlk : meth.locks = false) {I : Nat → ra_K} (hI : ∀ t ∈ [12, 48, 81], ra_At X p l e rm_Mo_keepsDry s m args below meth c 6 (MQ below (ra_Qc X Z) args s 0 0 (ra_A X)) (I t) t) : ra_At X p l e rm_Mo_keepsDry s m args below meth c 6 (MQ below (ra_Qc X Z) args s 0 0 (ra_A X)) (b_Mo_keepsDry_125 c0 I Z) 125 :=
  r_aload_n F d_Mo_keepsDry_125 rfl <| r_getR F cg_Mo (j := 6) (by decide) rfl fl_Mo_21 d_Mo_keepsDry_126 <| r_iload F d_Mo_keepsDry_129 <| r_iconst F d_Mo_keepsDry_131 (by decide) <| r_imul F d_Mo_keepsDry_132 <| r_aload_n F d_Mo_keepsDry_133 rfl <| r_getR F cg_Mo (j := 2) (by decide) rfl fl_Mo_41 d_Mo_keepsDry_134 <| r_getR F cg_Co (j := 3) (by decide) rfl fl_Mo_71 d_Mo_keepsDry_137 <| r_iload F d_Mo_keepsDry_140 <| r_iaload F d_Mo_keepsDry_142 <| r_iadd F d_Mo_keepsDry_143 <| r_iaload F d_Mo_keepsDry_144 <| r_aload_n F d_Mo_keepsDry_145 rfl <| r_getR F cg_Mo (j := 2) (by decide) rfl fl_Mo_41 d_Mo_keepsDry_146 <| r_getR F cg_Co (j := 2) (by decide) rfl fl_Mo_60 d_Mo_keepsDry_149 <| r_iload_n F d_Mo_keepsDry_152 rfl <| r_iaload F d_Mo_keepsDry_153 <| r_callSN F h0 (co_R_has (by decide +kernel) (by decide +kernel)) ⟨rfl, by decide +kernel⟩ (host := "RoofAcross") (by decide +kernel) st_R_has d_Mo_keepsDry_154 <| r_if_ne F d_Mo_keepsDry_157 (by decide) (o_Mo_keepsDry_162 h0 F hr hlk hI) (o_Mo_keepsDry_160 h0 F hr hlk hI)
theorem o_Mo_keepsDry_107 {X : ra_X} {p : Program} {l : Launch} {e : Env} {s : State} {m : MethodId} {args : Array Value} {below : List Frame} {meth : Method} {c : Code} {Z : ra_R} {c0 : ra_Sp}  (h0 : ra_MOK l X mi_R_has c0) (F : ra_Fx X p rm_Mo_keepsDry s m args c prog_6_method_5_code 6 cn_Mo) (hr : meth.sig.returnType = (some .boolean)) (hlk : meth.locks = false) {I : Nat → ra_K} (hI : ∀ t ∈ [12, 48, 81], ra_At X p l e rm_Mo_keepsDry s m args below meth c 6 (MQ below (ra_Qc X Z) args s 0 0 (ra_A X)) (I t) t) : ra_At X p l e rm_Mo_keepsDry s m args below meth c 6 (MQ below (ra_Qc X Z) args s 0 0 (ra_A X)) (b_Mo_keepsDry_107 c0 I Z) 107 :=
  r_aload_n F d_Mo_keepsDry_107 rfl <| r_getR F cg_Mo (j := 0) (by decide) rfl fl_Mo_28 d_Mo_keepsDry_108 <| r_getR F cg_V (j := 6) (by decide) rfl fl_Mo_89 d_Mo_keepsDry_111 <| r_iload F d_Mo_keepsDry_114 <| r_iaload F d_Mo_keepsDry_116 <| r_istore F d_Mo_keepsDry_117 (by decide) <| r_iinc F d_Mo_keepsDry_119 (by decide) (by decide) <| r_goto F d_Mo_keepsDry_122 (by decide) (hI 81 (by decide))
theorem o_Mo_keepsDry_93 {X : ra_X} {p : Program} {l : Launch} {e : Env} {s : State} {m : MethodId} {args : Array Value} {below : List Frame} {meth : Method} {c : Code} {Z : ra_R} {c0 : ra_Sp}  (h0 : ra_MOK l X mi_R_has c0) (F : ra_Fx X p rm_Mo_keepsDry s m args c prog_6_method_5_code 6 cn_Mo) (hr : meth.sig.returnType = (some .boolean)) (hlk : meth.locks = false) {I : Nat → ra_K} (hI : ∀ t ∈ [12, 48, 81], ra_At X p l e rm_Mo_keepsDry s m args below meth c 6 (MQ below (ra_Qc X Z) args s 0 0 (ra_A X)) (I t) t) : ra_At X p l e rm_Mo_keepsDry s m args below meth c 6 (MQ below (ra_Qc X Z) args s 0 0 (ra_A X)) (b_Mo_keepsDry_93 c0 I Z) 93 :=
  r_aload_n F d_Mo_keepsDry_93 rfl <| r_getR F cg_Mo (j := 2) (by decide) rfl fl_Mo_41 d_Mo_keepsDry_94 <| r_getR F cg_Co (j := 3) (by decide) rfl fl_Mo_71 d_Mo_keepsDry_97 <| r_iload F d_Mo_keepsDry_100 <| r_iaload F d_Mo_keepsDry_102 <| r_iconst F d_Mo_keepsDry_103 (by decide) <| r_icmp_ne F d_Mo_keepsDry_104 (by decide) (o_Mo_keepsDry_125 h0 F hr hlk hI) (o_Mo_keepsDry_107 h0 F hr hlk hI)
theorem o_Mo_keepsDry_81 {X : ra_X} {p : Program} {l : Launch} {e : Env} {s : State} {m : MethodId} {args : Array Value} {below : List Frame} {meth : Method} {c : Code} {Z : ra_R} {c0 : ra_Sp}  (h0 : ra_MOK l X mi_R_has c0) (F : ra_Fx X p rm_Mo_keepsDry s m args c prog_6_method_5_code 6 cn_Mo) (hr : meth.sig.returnType = (some .boolean)) (hlk : meth.locks = false) {I : Nat → ra_K} (hI : ∀ t ∈ [12, 48, 81], ra_At X p l e rm_Mo_keepsDry s m args below meth c 6 (MQ below (ra_Qc X Z) args s 0 0 (ra_A X)) (I t) t) : ra_At X p l e rm_Mo_keepsDry s m args below meth c 6 (MQ below (ra_Qc X Z) args s 0 0 (ra_A X)) (b_Mo_keepsDry_81 c0 I Z) 81 :=
  r_iload F d_Mo_keepsDry_81 <| r_aload_n F d_Mo_keepsDry_83 rfl <| r_getR F cg_Mo (j := 2) (by decide) rfl fl_Mo_41 d_Mo_keepsDry_84 <| r_getI F cg_Co (j := 9) (by decide) rfl fl_Mo_57 d_Mo_keepsDry_87 <| r_icmp_ge F d_Mo_keepsDry_90 (by decide) (o_Mo_keepsDry_125 h0 F hr hlk hI) (o_Mo_keepsDry_93 h0 F hr hlk hI)
theorem o_Mo_keepsDry_59 {X : ra_X} {p : Program} {l : Launch} {e : Env} {s : State} {m : MethodId} {args : Array Value} {below : List Frame} {meth : Method} {c : Code} {Z : ra_R} {c0 : ra_Sp}  (h0 : ra_MOK l X mi_R_has c0) (F : ra_Fx X p rm_Mo_keepsDry s m args c prog_6_method_5_code 6 cn_Mo) (hr : meth.sig.returnType = (some .boolean)) (hlk : meth.locks = false) {I : Nat → ra_K} (hI : ∀ t ∈ [12, 48, 81], ra_At X p l e rm_Mo_keepsDry s m args below meth c 6 (MQ below (ra_Qc X Z) args s 0 0 (ra_A X)) (I t) t) : ra_At X p l e rm_Mo_keepsDry s m args below meth c 6 (MQ below (ra_Qc X Z) args s 0 0 (ra_A X)) (b_Mo_keepsDry_59 c0 I Z) 59 :=
  r_aload_n F d_Mo_keepsDry_59 rfl <| r_getR F cg_Mo (j := 0) (by decide) rfl fl_Mo_28 d_Mo_keepsDry_60 <| r_getR F cg_V (j := 6) (by decide) rfl fl_Mo_89 d_Mo_keepsDry_63 <| r_aload_n F d_Mo_keepsDry_66 rfl <| r_getR F cg_Mo (j := 2) (by decide) rfl fl_Mo_41 d_Mo_keepsDry_67 <| r_getR F cg_Co (j := 2) (by decide) rfl fl_Mo_60 d_Mo_keepsDry_70 <| r_iload_n F d_Mo_keepsDry_73 rfl <| r_iaload F d_Mo_keepsDry_74 <| r_iaload F d_Mo_keepsDry_75 <| r_istore F d_Mo_keepsDry_76 (by decide) <| r_iconst F d_Mo_keepsDry_78 (by decide) <| r_istore F d_Mo_keepsDry_79 (by decide) <| (hI 81 (by decide))
theorem o_Mo_keepsDry_48 {X : ra_X} {p : Program} {l : Launch} {e : Env} {s : State} {m : MethodId} {args : Array Value} {below : List Frame} {meth : Method} {c : Code} {Z : ra_R} {c0 : ra_Sp}  (h0 : ra_MOK l X mi_R_has c0) (F : ra_Fx X p rm_Mo_keepsDry s m args c prog_6_method_5_code 6 cn_Mo) (hr : meth.sig.returnType = (some .boolean)) (hlk : meth.locks = false) {I : Nat → ra_K} (hI : ∀ t ∈ [12, 48, 81], ra_At X p l e rm_Mo_keepsDry s m args below meth c 6 (MQ below (ra_Qc X Z) args s 0 0 (ra_A X)) (I t) t) : ra_At X p l e rm_Mo_keepsDry s m args below meth c 6 (MQ below (ra_Qc X Z) args s 0 0 (ra_A X)) (b_Mo_keepsDry_48 c0 I Z) 48 :=
  r_iload_n F d_Mo_keepsDry_48 rfl <| r_aload_n F d_Mo_keepsDry_49 rfl <| r_getR F cg_Mo (j := 2) (by decide) rfl fl_Mo_41 d_Mo_keepsDry_50 <| r_getI F cg_Co (j := 9) (by decide) rfl fl_Mo_57 d_Mo_keepsDry_53 <| r_icmp_ge F d_Mo_keepsDry_56 (by decide) (o_Mo_keepsDry_168 h0 F hr hlk hI) (o_Mo_keepsDry_59 h0 F hr hlk hI)
theorem o_Mo_keepsDry_46 {X : ra_X} {p : Program} {l : Launch} {e : Env} {s : State} {m : MethodId} {args : Array Value} {below : List Frame} {meth : Method} {c : Code} {Z : ra_R} {c0 : ra_Sp}  (h0 : ra_MOK l X mi_R_has c0) (F : ra_Fx X p rm_Mo_keepsDry s m args c prog_6_method_5_code 6 cn_Mo) (hr : meth.sig.returnType = (some .boolean)) (hlk : meth.locks = false) {I : Nat → ra_K} (hI : ∀ t ∈ [12, 48, 81], ra_At X p l e rm_Mo_keepsDry s m args below meth c 6 (MQ below (ra_Qc X Z) args s 0 0 (ra_A X)) (I t) t) : ra_At X p l e rm_Mo_keepsDry s m args below meth c 6 (MQ below (ra_Qc X Z) args s 0 0 (ra_A X)) (b_Mo_keepsDry_46 c0 I Z) 46 :=
  r_iconst F d_Mo_keepsDry_46 (by decide) <| r_istore_n F d_Mo_keepsDry_47 rfl (by decide) <| (hI 48 (by decide))
theorem o_Mo_keepsDry_16 {X : ra_X} {p : Program} {l : Launch} {e : Env} {s : State} {m : MethodId} {args : Array Value} {below : List Frame} {meth : Method} {c : Code} {Z : ra_R} {c0 : ra_Sp}  (h0 : ra_MOK l X mi_R_has c0) (F : ra_Fx X p rm_Mo_keepsDry s m args c prog_6_method_5_code 6 cn_Mo) (hr : meth.sig.returnType = (some .boolean)) (hlk : meth.locks = false) {I : Nat → ra_K} (hI : ∀ t ∈ [12, 48, 81], ra_At X p l e rm_Mo_keepsDry s m args below meth c 6 (MQ below (ra_Qc X Z) args s 0 0 (ra_A X)) (I t) t) : ra_At X p l e rm_Mo_keepsDry s m args below meth c 6 (MQ below (ra_Qc X Z) args s 0 0 (ra_A X)) (b_Mo_keepsDry_16 c0 I Z) 16 :=
  r_aload_n F d_Mo_keepsDry_16 rfl <| r_getR F cg_Mo (j := 2) (by decide) rfl fl_Mo_41 d_Mo_keepsDry_17 <| r_getR F cg_Co (j := 3) (by decide) rfl fl_Mo_71 d_Mo_keepsDry_20 <| r_aload_n F d_Mo_keepsDry_23 rfl <| r_getR F cg_Mo (j := 2) (by decide) rfl fl_Mo_41 d_Mo_keepsDry_24 <| r_getR F cg_Co (j := 2) (by decide) rfl fl_Mo_60 d_Mo_keepsDry_27 <| r_iload_n F d_Mo_keepsDry_30 rfl <| r_iaload F d_Mo_keepsDry_31 <| r_iload_n F d_Mo_keepsDry_32 rfl <| r_iconst F d_Mo_keepsDry_33 (by decide) <| r_iand F d_Mo_keepsDry_34 <| r_iastore F d_Mo_keepsDry_35 <| r_iload_n F d_Mo_keepsDry_36 rfl <| r_iconst F d_Mo_keepsDry_37 (by decide) <| r_ishr F d_Mo_keepsDry_38 <| r_istore_n F d_Mo_keepsDry_39 rfl (by decide) <| r_iinc F d_Mo_keepsDry_40 (by decide) (by decide) <| r_goto F d_Mo_keepsDry_43 (by decide) (hI 12 (by decide))
theorem o_Mo_keepsDry_12 {X : ra_X} {p : Program} {l : Launch} {e : Env} {s : State} {m : MethodId} {args : Array Value} {below : List Frame} {meth : Method} {c : Code} {Z : ra_R} {c0 : ra_Sp}  (h0 : ra_MOK l X mi_R_has c0) (F : ra_Fx X p rm_Mo_keepsDry s m args c prog_6_method_5_code 6 cn_Mo) (hr : meth.sig.returnType = (some .boolean)) (hlk : meth.locks = false) {I : Nat → ra_K} (hI : ∀ t ∈ [12, 48, 81], ra_At X p l e rm_Mo_keepsDry s m args below meth c 6 (MQ below (ra_Qc X Z) args s 0 0 (ra_A X)) (I t) t) : ra_At X p l e rm_Mo_keepsDry s m args below meth c 6 (MQ below (ra_Qc X Z) args s 0 0 (ra_A X)) (b_Mo_keepsDry_12 c0 I Z) 12 :=
  r_iload_n F d_Mo_keepsDry_12 rfl <| r_if_lt F d_Mo_keepsDry_13 (by decide) (o_Mo_keepsDry_46 h0 F hr hlk hI) (o_Mo_keepsDry_16 h0 F hr hlk hI)
theorem o_Mo_keepsDry_0 {X : ra_X} {p : Program} {l : Launch} {e : Env} {s : State} {m : MethodId} {args : Array Value} {below : List Frame} {meth : Method} {c : Code} {Z : ra_R} {c0 : ra_Sp}  (h0 : ra_MOK l X mi_R_has c0) (F : ra_Fx X p rm_Mo_keepsDry s m args c prog_6_method_5_code 6 cn_Mo) (hr : meth.sig.returnType = (some .boolean)) (hlk : meth.locks = false) {I : Nat → ra_K} (hI : ∀ t ∈ [12, 48, 81], ra_At X p l e rm_Mo_keepsDry s m args below meth c 6 (MQ below (ra_Qc X Z) args s 0 0 (ra_A X)) (I t) t) : ra_At X p l e rm_Mo_keepsDry s m args below meth c 6 (MQ below (ra_Qc X Z) args s 0 0 (ra_A X)) (b_Mo_keepsDry_0 c0 I Z) 0 :=
  r_iload_n F d_Mo_keepsDry_0 rfl <| r_istore_n F d_Mo_keepsDry_1 rfl (by decide) <| r_aload_n F d_Mo_keepsDry_2 rfl <| r_getR F cg_Mo (j := 2) (by decide) rfl fl_Mo_41 d_Mo_keepsDry_3 <| r_getI F cg_Co (j := 9) (by decide) rfl fl_Mo_57 d_Mo_keepsDry_6 <| r_iconst F d_Mo_keepsDry_9 (by decide) <| r_isub F d_Mo_keepsDry_10 <| r_istore_n F d_Mo_keepsDry_11 rfl (by decide) <| (hI 12 (by decide))
theorem g_Mo_keepsDry {l : Launch} {X : ra_X} {c0 : ra_Sp}  (h0 : ra_MOK l X mi_R_has c0) (sp : ra_Sp) (I : ra_R → List Value → ra_St → Nat → ra_M → ra_K) (ve : ∀ as σ Z, ra_c1 as = true → as.length = 2 → sp as σ Z → b_Mo_keepsDry_0 c0 (ra_I (I Z as σ)) Z (ra_pad 6 as) [] σ) (v12 : ∀ as σ Z, sp as σ Z → ∀ μ L S σ1, I Z as σ 12 μ L S σ1 → b_Mo_keepsDry_12 c0 (ra_J (I Z as σ) μ) Z L S σ1) (v48 : ∀ as σ Z, sp as σ Z → ∀ μ L S σ1, I Z as σ 48 μ L S σ1 → b_Mo_keepsDry_48 c0 (ra_J (I Z as σ) μ) Z L S σ1) (v81 : ∀ as σ Z, sp as σ Z → ∀ μ L S σ1, I Z as σ 81 μ L S σ1 → b_Mo_keepsDry_81 c0 (ra_J (I Z as σ) μ) Z L S σ1) : ra_MOK l X mi_Mo_keepsDry sp := by
  refine ra_enter (k := fun Z as σ => b_Mo_keepsDry_0 c0 (ra_I (I Z as σ)) Z) cn_Mo rfl (by decide +kernel) ⟨by decide +kernel, by decide +kernel⟩ (by decide +kernel) ?_ ve
  intro p e s m args below meth c Z as σ hsp F hr hlk
  refine o_Mo_keepsDry_0 h0 F hr hlk (ra_cuts (b := fun t J => if t = 12 then b_Mo_keepsDry_12 c0 J Z else if t = 48 then b_Mo_keepsDry_48 c0 J Z else if t = 81 then b_Mo_keepsDry_81 c0 J Z else fun _ _ _ => False) ?_ ?_)
  · intro t ht J hJ
    simp only [List.mem_cons, List.not_mem_nil, or_false] at ht
    rcases ht with rfl | rfl | rfl
    · exact o_Mo_keepsDry_12 h0 F hr hlk hJ
    · exact o_Mo_keepsDry_48 h0 F hr hlk hJ
    · exact o_Mo_keepsDry_81 h0 F hr hlk hJ
  · intro t ht μ L S σ1 hI
    simp only [List.mem_cons, List.not_mem_nil, or_false] at ht
    rcases ht with rfl | rfl | rfl
    · exact v12 as σ Z hsp μ L S σ1 hI
    · exact v48 as σ Z hsp μ L S σ1 hI
    · exact v81 as σ Z hsp μ L S σ1 hI

theorem d_Mo_tryAll_0 : decode prog_6_method_3_code 0 = .ok (.aload_n 0, 1) := by decide +kernel
theorem d_Mo_tryAll_1 : decode prog_6_method_3_code 1 = .ok (.getfield 41, 3) := by decide +kernel
theorem d_Mo_tryAll_4 : decode prog_6_method_3_code 4 = .ok (.iload_n 1, 1) := by decide +kernel
theorem d_Mo_tryAll_5 : decode prog_6_method_3_code 5 = .ok (.invokevirtual 53, 3) := by decide +kernel
theorem d_Mo_tryAll_8 : decode prog_6_method_3_code 8 = .ok (.iconst 0, 1) := by decide +kernel
theorem d_Mo_tryAll_9 : decode prog_6_method_3_code 9 = .ok (.istore_n 3, 1) := by decide +kernel
theorem d_Mo_tryAll_10 : decode prog_6_method_3_code 10 = .ok (.iload_n 3, 1) := by decide +kernel
theorem d_Mo_tryAll_11 : decode prog_6_method_3_code 11 = .ok (.aload_n 0, 1) := by decide +kernel
theorem d_Mo_tryAll_12 : decode prog_6_method_3_code 12 = .ok (.getfield 41, 3) := by decide +kernel
theorem d_Mo_tryAll_15 : decode prog_6_method_3_code 15 = .ok (.getfield 57, 3) := by decide +kernel
theorem d_Mo_tryAll_18 : decode prog_6_method_3_code 18 = .ok (.if_icmp .ge 40, 3) := by decide +kernel
theorem d_Mo_tryAll_21 : decode prog_6_method_3_code 21 = .ok (.iconst 0, 1) := by decide +kernel
theorem d_Mo_tryAll_22 : decode prog_6_method_3_code 22 = .ok (.istore 4, 2) := by decide +kernel
theorem d_Mo_tryAll_24 : decode prog_6_method_3_code 24 = .ok (.iload 4, 2) := by decide +kernel
theorem d_Mo_tryAll_26 : decode prog_6_method_3_code 26 = .ok (.iconst 4, 1) := by decide +kernel
theorem d_Mo_tryAll_27 : decode prog_6_method_3_code 27 = .ok (.if_icmp .ge 25, 3) := by decide +kernel
theorem d_Mo_tryAll_30 : decode prog_6_method_3_code 30 = .ok (.aload_n 0, 1) := by decide +kernel
theorem d_Mo_tryAll_31 : decode prog_6_method_3_code 31 = .ok (.aload_n 0, 1) := by decide +kernel
theorem d_Mo_tryAll_32 : decode prog_6_method_3_code 32 = .ok (.getfield 41, 3) := by decide +kernel
theorem d_Mo_tryAll_35 : decode prog_6_method_3_code 35 = .ok (.getfield 60, 3) := by decide +kernel
theorem d_Mo_tryAll_38 : decode prog_6_method_3_code 38 = .ok (.iload_n 3, 1) := by decide +kernel
theorem d_Mo_tryAll_39 : decode prog_6_method_3_code 39 = .ok (.iaload, 1) := by decide +kernel
theorem d_Mo_tryAll_40 : decode prog_6_method_3_code 40 = .ok (.iload 4, 2) := by decide +kernel
theorem d_Mo_tryAll_42 : decode prog_6_method_3_code 42 = .ok (.iload_n 2, 1) := by decide +kernel
theorem d_Mo_tryAll_43 : decode prog_6_method_3_code 43 = .ok (.invokevirtual 63, 3) := by decide +kernel
theorem d_Mo_tryAll_46 : decode prog_6_method_3_code 46 = .ok (.iinc 4 1, 3) := by decide +kernel
theorem d_Mo_tryAll_49 : decode prog_6_method_3_code 49 = .ok (.goto (-25), 3) := by decide +kernel
theorem d_Mo_tryAll_52 : decode prog_6_method_3_code 52 = .ok (.iinc 3 1, 3) := by decide +kernel
theorem d_Mo_tryAll_55 : decode prog_6_method_3_code 55 = .ok (.goto (-45), 3) := by decide +kernel
theorem d_Mo_tryAll_58 : decode prog_6_method_3_code 58 = .ok (.iconst 0, 1) := by decide +kernel
theorem d_Mo_tryAll_59 : decode prog_6_method_3_code 59 = .ok (.istore_n 3, 1) := by decide +kernel
theorem d_Mo_tryAll_60 : decode prog_6_method_3_code 60 = .ok (.iconst (-1), 1) := by decide +kernel
theorem d_Mo_tryAll_61 : decode prog_6_method_3_code 61 = .ok (.istore 4, 2) := by decide +kernel
theorem d_Mo_tryAll_63 : decode prog_6_method_3_code 63 = .ok (.iconst 1, 1) := by decide +kernel
theorem d_Mo_tryAll_64 : decode prog_6_method_3_code 64 = .ok (.iconst 2, 1) := by decide +kernel
theorem d_Mo_tryAll_65 : decode prog_6_method_3_code 65 = .ok (.aload_n 0, 1) := by decide +kernel
theorem d_Mo_tryAll_66 : decode prog_6_method_3_code 66 = .ok (.getfield 41, 3) := by decide +kernel
theorem d_Mo_tryAll_69 : decode prog_6_method_3_code 69 = .ok (.getfield 57, 3) := by decide +kernel
theorem d_Mo_tryAll_72 : decode prog_6_method_3_code 72 = .ok (.imul, 1) := by decide +kernel
theorem d_Mo_tryAll_73 : decode prog_6_method_3_code 73 = .ok (.ishl, 1) := by decide +kernel
theorem d_Mo_tryAll_74 : decode prog_6_method_3_code 74 = .ok (.istore 5, 2) := by decide +kernel
theorem d_Mo_tryAll_76 : decode prog_6_method_3_code 76 = .ok (.iconst 0, 1) := by decide +kernel
theorem d_Mo_tryAll_77 : decode prog_6_method_3_code 77 = .ok (.istore 6, 2) := by decide +kernel
theorem d_Mo_tryAll_79 : decode prog_6_method_3_code 79 = .ok (.iload 6, 2) := by decide +kernel
theorem d_Mo_tryAll_81 : decode prog_6_method_3_code 81 = .ok (.iload 5, 2) := by decide +kernel
theorem d_Mo_tryAll_83 : decode prog_6_method_3_code 83 = .ok (.if_icmp .ge 36, 3) := by decide +kernel
theorem d_Mo_tryAll_86 : decode prog_6_method_3_code 86 = .ok (.aload_n 0, 1) := by decide +kernel
theorem d_Mo_tryAll_87 : decode prog_6_method_3_code 87 = .ok (.iload 6, 2) := by decide +kernel
theorem d_Mo_tryAll_89 : decode prog_6_method_3_code 89 = .ok (.invokevirtual 67, 3) := by decide +kernel
theorem d_Mo_tryAll_92 : decode prog_6_method_3_code 92 = .ok (.ifCond .eq 21, 3) := by decide +kernel
theorem d_Mo_tryAll_95 : decode prog_6_method_3_code 95 = .ok (.iinc 3 1, 3) := by decide +kernel
theorem d_Mo_tryAll_98 : decode prog_6_method_3_code 98 = .ok (.iload 4, 2) := by decide +kernel
theorem d_Mo_tryAll_100 : decode prog_6_method_3_code 100 = .ok (.iconst (-1), 1) := by decide +kernel
theorem d_Mo_tryAll_101 : decode prog_6_method_3_code 101 = .ok (.if_icmp .ne 8, 3) := by decide +kernel
theorem d_Mo_tryAll_104 : decode prog_6_method_3_code 104 = .ok (.iload 6, 2) := by decide +kernel
theorem d_Mo_tryAll_106 : decode prog_6_method_3_code 106 = .ok (.goto 5, 3) := by decide +kernel
theorem d_Mo_tryAll_109 : decode prog_6_method_3_code 109 = .ok (.iload 4, 2) := by decide +kernel
theorem d_Mo_tryAll_111 : decode prog_6_method_3_code 111 = .ok (.istore 4, 2) := by decide +kernel
theorem d_Mo_tryAll_113 : decode prog_6_method_3_code 113 = .ok (.iinc 6 1, 3) := by decide +kernel
theorem d_Mo_tryAll_116 : decode prog_6_method_3_code 116 = .ok (.goto (-37), 3) := by decide +kernel
theorem d_Mo_tryAll_119 : decode prog_6_method_3_code 119 = .ok (.iconst 0, 1) := by decide +kernel
theorem d_Mo_tryAll_120 : decode prog_6_method_3_code 120 = .ok (.istore 6, 2) := by decide +kernel
theorem d_Mo_tryAll_122 : decode prog_6_method_3_code 122 = .ok (.iload 6, 2) := by decide +kernel
theorem d_Mo_tryAll_124 : decode prog_6_method_3_code 124 = .ok (.aload_n 0, 1) := by decide +kernel
theorem d_Mo_tryAll_125 : decode prog_6_method_3_code 125 = .ok (.getfield 41, 3) := by decide +kernel
theorem d_Mo_tryAll_128 : decode prog_6_method_3_code 128 = .ok (.getfield 57, 3) := by decide +kernel
theorem d_Mo_tryAll_131 : decode prog_6_method_3_code 131 = .ok (.if_icmp .ge 46, 3) := by decide +kernel
theorem d_Mo_tryAll_134 : decode prog_6_method_3_code 134 = .ok (.aload_n 0, 1) := by decide +kernel
theorem d_Mo_tryAll_135 : decode prog_6_method_3_code 135 = .ok (.getfield 41, 3) := by decide +kernel
theorem d_Mo_tryAll_138 : decode prog_6_method_3_code 138 = .ok (.getfield 60, 3) := by decide +kernel
theorem d_Mo_tryAll_141 : decode prog_6_method_3_code 141 = .ok (.iload 6, 2) := by decide +kernel
theorem d_Mo_tryAll_143 : decode prog_6_method_3_code 143 = .ok (.iaload, 1) := by decide +kernel
theorem d_Mo_tryAll_144 : decode prog_6_method_3_code 144 = .ok (.istore 7, 2) := by decide +kernel
theorem d_Mo_tryAll_146 : decode prog_6_method_3_code 146 = .ok (.aload_n 0, 1) := by decide +kernel
theorem d_Mo_tryAll_147 : decode prog_6_method_3_code 147 = .ok (.getfield 9, 3) := by decide +kernel
theorem d_Mo_tryAll_150 : decode prog_6_method_3_code 150 = .ok (.iload 7, 2) := by decide +kernel
theorem d_Mo_tryAll_152 : decode prog_6_method_3_code 152 = .ok (.iload_n 2, 1) := by decide +kernel
theorem d_Mo_tryAll_153 : decode prog_6_method_3_code 153 = .ok (.iastore, 1) := by decide +kernel
theorem d_Mo_tryAll_154 : decode prog_6_method_3_code 154 = .ok (.aload_n 0, 1) := by decide +kernel
theorem d_Mo_tryAll_155 : decode prog_6_method_3_code 155 = .ok (.getfield 15, 3) := by decide +kernel
theorem d_Mo_tryAll_158 : decode prog_6_method_3_code 158 = .ok (.iload 7, 2) := by decide +kernel
theorem d_Mo_tryAll_160 : decode prog_6_method_3_code 160 = .ok (.iload_n 3, 1) := by decide +kernel
theorem d_Mo_tryAll_161 : decode prog_6_method_3_code 161 = .ok (.iastore, 1) := by decide +kernel
theorem d_Mo_tryAll_162 : decode prog_6_method_3_code 162 = .ok (.aload_n 0, 1) := by decide +kernel
theorem d_Mo_tryAll_163 : decode prog_6_method_3_code 163 = .ok (.getfield 18, 3) := by decide +kernel
theorem d_Mo_tryAll_166 : decode prog_6_method_3_code 166 = .ok (.iload 7, 2) := by decide +kernel
theorem d_Mo_tryAll_168 : decode prog_6_method_3_code 168 = .ok (.iload 4, 2) := by decide +kernel
theorem d_Mo_tryAll_170 : decode prog_6_method_3_code 170 = .ok (.iastore, 1) := by decide +kernel
theorem d_Mo_tryAll_171 : decode prog_6_method_3_code 171 = .ok (.iinc 6 1, 3) := by decide +kernel
theorem d_Mo_tryAll_174 : decode prog_6_method_3_code 174 = .ok (.goto (-52), 3) := by decide +kernel
theorem d_Mo_tryAll_177 : decode prog_6_method_3_code 177 = .ok (.return_, 1) := by decide +kernel
def b_Mo_tryAll_177 (c0 c1 c2 : ra_Sp) (I : Nat → ra_K) (Z : ra_R) : ra_K := w_vr Z
def b_Mo_tryAll_134 (c0 c1 c2 : ra_Sp) (I : Nat → ra_K) (Z : ra_R) : ra_K := w_al 0 <| w_gr 6 2 <| w_gr 4 2 <| w_il 6 <| w_ald <| w_is 7 <| w_al 0 <| w_gr 6 3 <| w_il 7 <| w_il 2 <| w_ast <| w_al 0 <| w_gr 6 4 <| w_il 7 <| w_il 3 <| w_ast <| w_al 0 <| w_gr 6 5 <| w_il 7 <| w_il 4 <| w_ast <| w_inc 6 1 <| (I 122)
def b_Mo_tryAll_122 (c0 c1 c2 : ra_Sp) (I : Nat → ra_K) (Z : ra_R) : ra_K := w_il 6 <| w_al 0 <| w_gr 6 2 <| w_gi 4 9 <| w_b2 (fun x y => y ≤ x) (b_Mo_tryAll_177 c0 c1 c2 I Z) (b_Mo_tryAll_134 c0 c1 c2 I Z)
def b_Mo_tryAll_119 (c0 c1 c2 : ra_Sp) (I : Nat → ra_K) (Z : ra_R) : ra_K := w_c 0 <| w_is 6 <| (I 122)
def b_Mo_tryAll_113 (c0 c1 c2 : ra_Sp) (I : Nat → ra_K) (Z : ra_R) : ra_K := w_inc 6 1 <| (I 79)
def b_Mo_tryAll_111 (c0 c1 c2 : ra_Sp) (I : Nat → ra_K) (Z : ra_R) : ra_K := w_is 4 <| (b_Mo_tryAll_113 c0 c1 c2 I Z)
def b_Mo_tryAll_109 (c0 c1 c2 : ra_Sp) (I : Nat → ra_K) (Z : ra_R) : ra_K := w_il 4 <| (b_Mo_tryAll_111 c0 c1 c2 I Z)
def b_Mo_tryAll_104 (c0 c1 c2 : ra_Sp) (I : Nat → ra_K) (Z : ra_R) : ra_K := w_il 6 <| (b_Mo_tryAll_111 c0 c1 c2 I Z)
def b_Mo_tryAll_95 (c0 c1 c2 : ra_Sp) (I : Nat → ra_K) (Z : ra_R) : ra_K := w_inc 3 1 <| w_il 4 <| w_c (-1) <| w_b2 (fun x y => x = y) (b_Mo_tryAll_104 c0 c1 c2 I Z) (b_Mo_tryAll_109 c0 c1 c2 I Z)
def b_Mo_tryAll_86 (c0 c1 c2 : ra_Sp) (I : Nat → ra_K) (Z : ra_R) : ra_K := w_al 0 <| w_il 6 <| w_cv c2 2 6 <| w_b1 (fun x => x = 0) (b_Mo_tryAll_113 c0 c1 c2 I Z) (b_Mo_tryAll_95 c0 c1 c2 I Z)
def b_Mo_tryAll_79 (c0 c1 c2 : ra_Sp) (I : Nat → ra_K) (Z : ra_R) : ra_K := w_il 6 <| w_il 5 <| w_b2 (fun x y => y ≤ x) (b_Mo_tryAll_119 c0 c1 c2 I Z) (b_Mo_tryAll_86 c0 c1 c2 I Z)
def b_Mo_tryAll_58 (c0 c1 c2 : ra_Sp) (I : Nat → ra_K) (Z : ra_R) : ra_K := w_c 0 <| w_is 3 <| w_c (-1) <| w_is 4 <| w_c 1 <| w_c 2 <| w_al 0 <| w_gr 6 2 <| w_gi 4 9 <| w_i2 (fun x y => x * y) <| w_i2 (fun x y => x <<< (y &&& 31)) <| w_is 5 <| w_c 0 <| w_is 6 <| (I 79)
def b_Mo_tryAll_52 (c0 c1 c2 : ra_Sp) (I : Nat → ra_K) (Z : ra_R) : ra_K := w_inc 3 1 <| (I 10)
def b_Mo_tryAll_30 (c0 c1 c2 : ra_Sp) (I : Nat → ra_K) (Z : ra_R) : ra_K := w_al 0 <| w_al 0 <| w_gr 6 2 <| w_gr 4 2 <| w_il 3 <| w_ald <| w_il 4 <| w_il 2 <| w_cv c1 4 6 <| w_inc 4 1 <| (I 24)
def b_Mo_tryAll_24 (c0 c1 c2 : ra_Sp) (I : Nat → ra_K) (Z : ra_R) : ra_K := w_il 4 <| w_c 4 <| w_b2 (fun x y => y ≤ x) (b_Mo_tryAll_52 c0 c1 c2 I Z) (b_Mo_tryAll_30 c0 c1 c2 I Z)
def b_Mo_tryAll_21 (c0 c1 c2 : ra_Sp) (I : Nat → ra_K) (Z : ra_R) : ra_K := w_c 0 <| w_is 4 <| (I 24)
def b_Mo_tryAll_10 (c0 c1 c2 : ra_Sp) (I : Nat → ra_K) (Z : ra_R) : ra_K := w_il 3 <| w_al 0 <| w_gr 6 2 <| w_gi 4 9 <| w_b2 (fun x y => y ≤ x) (b_Mo_tryAll_58 c0 c1 c2 I Z) (b_Mo_tryAll_21 c0 c1 c2 I Z)
def b_Mo_tryAll_0 (c0 c1 c2 : ra_Sp) (I : Nat → ra_K) (Z : ra_R) : ra_K := w_al 0 <| w_gr 6 2 <| w_il 1 <| w_cv c0 2 4 <| w_c 0 <| w_is 3 <| (I 10)
theorem o_Mo_tryAll_177 {X : ra_X} {p : Program} {l : Launch} {e : Env} {s : State} {m : MethodId} {args : Array Value} {below : List Frame} {meth : Method} {c : Code} {Z : ra_R} {c0 c1 c2 : ra_Sp}  (h0 : ra_MOK l X mi_Co_choose c0) (h1 : ra_MOK l X mi_Mo_passAmongGrudges c1) (h2 : ra_MOK l X mi_Mo_keepsDry c2) (F : ra_Fx X p rm_Mo_tryAll s m args c prog_6_method_3_code 8 cn_Mo) (hr : meth.sig.returnType = none) (hlk : meth.locks = false) {I : Nat → ra_K} (hI : ∀ t ∈ [10, 24, 79, 122], ra_At X p l e rm_Mo_tryAll s m args below meth c 8 (MQ below (ra_Qc X Z) args s 0 0 (ra_A X)) (I t) t) : ra_At X p l e rm_Mo_tryAll s m args below meth c 8 (MQ below (ra_Qc X Z) args s 0 0 (ra_A X)) (b_Mo_tryAll_177 c0 c1 c2 I Z) 177 :=
  r_return F hr hlk d_Mo_tryAll_177
theorem o_Mo_tryAll_134 {X : ra_X} {p : Program} {l : Launch} {e : Env} {s : State} {m : MethodId} {args : Array Value} {below : List Frame} {meth : Method} {c : Code} {Z : ra_R} {c0 c1 c2 : ra_Sp}  (h0 : ra_MOK l X mi_Co_choose c0) (h1 : ra_MOK l X mi_Mo_passAmongGrudges c1) (h2 : ra_MOK l X mi_Mo_keepsDry c2) (F : ra_Fx X p rm_Mo_tryAll s m args c prog_6_method_3_code 8 cn_Mo) (hr : meth.sig.returnType = none) (hlk : meth.locks = false) {I : Nat → ra_K} (hI : ∀ t ∈ [10, 24, 79, 122], ra_At X p l e rm_Mo_tryAll s m args below meth c 8 (MQ below (ra_Qc X Z) args s 0 0 (ra_A X)) (I t) t) : ra_At X p l e rm_Mo_tryAll s m args below meth c 8 (MQ below (ra_Qc X Z) args s 0 0 (ra_A X)) (b_Mo_tryAll_134 c0 c1 c2 I Z) 134 :=
  r_aload_n F d_Mo_tryAll_134 rfl <| r_getR F cg_Mo (j := 2) (by decide) rfl fl_Mo_41 d_Mo_tryAll_135 <| r_getR F cg_Co (j := 2) (by decide) rfl fl_Mo_60 d_Mo_tryAll_138 <| r_iload F d_Mo_tryAll_141 <| r_iaload F d_Mo_tryAll_143 <| r_istore F d_Mo_tryAll_144 (by decide) <| r_aload_n F d_Mo_tryAll_146 rfl <| r_getR F cg_Mo (j := 3) (by decide) rfl fl_Mo_9 d_Mo_tryAll_147 <| r_iload F d_Mo_tryAll_150 <| r_iload_n F d_Mo_tryAll_152 rfl <| r_iastore F d_Mo_tryAll_153 <| r_aload_n F d_Mo_tryAll_154 rfl <| r_getR F cg_Mo (j := 4) (by decide) rfl fl_Mo_15 d_Mo_tryAll_155 <| r_iload F d_Mo_tryAll_158 <| r_iload_n F d_Mo_tryAll_160 rfl <| r_iastore F d_Mo_tryAll_161 <| r_aload_n F d_Mo_tryAll_162 rfl <| r_getR F cg_Mo (j := 5) (by decide) rfl fl_Mo_18 d_Mo_tryAll_163 <| r_iload F d_Mo_tryAll_166 <| r_iload F d_Mo_tryAll_168 <| r_iastore F d_Mo_tryAll_170 <| r_iinc F d_Mo_tryAll_171 (by decide) (by decide) <| r_goto F d_Mo_tryAll_174 (by decide) (hI 122 (by decide))
theorem o_Mo_tryAll_122 {X : ra_X} {p : Program} {l : Launch} {e : Env} {s : State} {m : MethodId} {args : Array Value} {below : List Frame} {meth : Method} {c : Code} {Z : ra_R} {c0 c1 c2 : ra_Sp}  (h0 : ra_MOK l X mi_Co_choose c0) (h1 : ra_MOK l X mi_Mo_passAmongGrudges c1) (h2 : ra_MOK l X mi_Mo_keepsDry c2) (F : ra_Fx X p rm_Mo_tryAll s m args c prog_6_method_3_code 8 cn_Mo) (hr : meth.sig.returnType = none) (hlk : meth.locks = false) {I : Nat → ra_K} (hI : ∀ t ∈ [10, 24, 79, 122], ra_At X p l e rm_Mo_tryAll s m args below meth c 8 (MQ below (ra_Qc X Z) args s 0 0 (ra_A X)) (I t) t) : ra_At X p l e rm_Mo_tryAll s m args below meth c 8 (MQ below (ra_Qc X Z) args s 0 0 (ra_A X)) (b_Mo_tryAll_122 c0 c1 c2 I Z) 122 :=
  r_iload F d_Mo_tryAll_122 <| r_aload_n F d_Mo_tryAll_124 rfl <| r_getR F cg_Mo (j := 2) (by decide) rfl fl_Mo_41 d_Mo_tryAll_125 <| r_getI F cg_Co (j := 9) (by decide) rfl fl_Mo_57 d_Mo_tryAll_128 <| r_icmp_ge F d_Mo_tryAll_131 (by decide) (o_Mo_tryAll_177 h0 h1 h2 F hr hlk hI) (o_Mo_tryAll_134 h0 h1 h2 F hr hlk hI)
theorem o_Mo_tryAll_119 {X : ra_X} {p : Program} {l : Launch} {e : Env} {s : State} {m : MethodId} {args : Array Value} {below : List Frame} {meth : Method} {c : Code} {Z : ra_R} {c0 c1 c2 : ra_Sp}  (h0 : ra_MOK l X mi_Co_choose c0) (h1 : ra_MOK l X mi_Mo_passAmongGrudges c1) (h2 : ra_MOK l X mi_Mo_keepsDry c2) (F : ra_Fx X p rm_Mo_tryAll s m args c prog_6_method_3_code 8 cn_Mo) (hr : meth.sig.returnType = none) (hlk : meth.locks = false) {I : Nat → ra_K} (hI : ∀ t ∈ [10, 24, 79, 122], ra_At X p l e rm_Mo_tryAll s m args below meth c 8 (MQ below (ra_Qc X Z) args s 0 0 (ra_A X)) (I t) t) : ra_At X p l e rm_Mo_tryAll s m args below meth c 8 (MQ below (ra_Qc X Z) args s 0 0 (ra_A X)) (b_Mo_tryAll_119 c0 c1 c2 I Z) 119 :=
  r_iconst F d_Mo_tryAll_119 (by decide) <| r_istore F d_Mo_tryAll_120 (by decide) <| (hI 122 (by decide))
theorem o_Mo_tryAll_113 {X : ra_X} {p : Program} {l : Launch} {e : Env} {s : State} {m : MethodId} {args : Array Value} {below : List Frame} {meth : Method} {c : Code} {Z : ra_R} {c0 c1 c2 : ra_Sp}  (h0 : ra_MOK l X mi_Co_choose c0) (h1 : ra_MOK l X mi_Mo_passAmongGrudges c1) (h2 : ra_MOK l X mi_Mo_keepsDry c2) (F : ra_Fx X p rm_Mo_tryAll s m args c prog_6_method_3_code 8 cn_Mo) (hr : meth.sig.returnType = none) (hlk : meth.locks = false) {I : Nat → ra_K} (hI : ∀ t ∈ [10, 24, 79, 122], ra_At X p l e rm_Mo_tryAll s m args below meth c 8 (MQ below (ra_Qc X Z) args s 0 0 (ra_A X)) (I t) t) : ra_At X p l e rm_Mo_tryAll s m args below meth c 8 (MQ below (ra_Qc X Z) args s 0 0 (ra_A X)) (b_Mo_tryAll_113 c0 c1 c2 I Z) 113 :=
  r_iinc F d_Mo_tryAll_113 (by decide) (by decide) <| r_goto F d_Mo_tryAll_116 (by decide) (hI 79 (by decide))
theorem o_Mo_tryAll_111 {X : ra_X} {p : Program} {l : Launch} {e : Env} {s : State} {m : MethodId} {args : Array Value} {below : List Frame} {meth : Method} {c : Code} {Z : ra_R} {c0 c1 c2 : ra_Sp}  (h0 : ra_MOK l X mi_Co_choose c0) (h1 : ra_MOK l X mi_Mo_passAmongGrudges c1) (h2 : ra_MOK l X mi_Mo_keepsDry c2) (F : ra_Fx X p rm_Mo_tryAll s m args c prog_6_method_3_code 8 cn_Mo) (hr : meth.sig.returnType = none) (hlk : meth.locks = false) {I : Nat → ra_K} (hI : ∀ t ∈ [10, 24, 79, 122], ra_At X p l e rm_Mo_tryAll s m args below meth c 8 (MQ below (ra_Qc X Z) args s 0 0 (ra_A X)) (I t) t) : ra_At X p l e rm_Mo_tryAll s m args below meth c 8 (MQ below (ra_Qc X Z) args s 0 0 (ra_A X)) (b_Mo_tryAll_111 c0 c1 c2 I Z) 111 :=
  r_istore F d_Mo_tryAll_111 (by decide) <| (o_Mo_tryAll_113 h0 h1 h2 F hr hlk hI)
theorem o_Mo_tryAll_109 {X : ra_X} {p : Program} {l : Launch} {e : Env} {s : State} {m : MethodId} {args : Array Value} {below : List Frame} {meth : Method} {c : Code} {Z : ra_R} {c0 c1 c2 : ra_Sp}  (h0 : ra_MOK l X mi_Co_choose c0) (h1 : ra_MOK l X mi_Mo_passAmongGrudges c1) (h2 : ra_MOK l X mi_Mo_keepsDry c2) (F : ra_Fx X p rm_Mo_tryAll s m args c prog_6_method_3_code 8 cn_Mo) (hr : meth.sig.returnType = none) (hlk : meth.locks = false) {I : Nat → ra_K} (hI : ∀ t ∈ [10, 24, 79, 122], ra_At X p l e rm_Mo_tryAll s m args below meth c 8 (MQ below (ra_Qc X Z) args s 0 0 (ra_A X)) (I t) t) : ra_At X p l e rm_Mo_tryAll s m args below meth c 8 (MQ below (ra_Qc X Z) args s 0 0 (ra_A X)) (b_Mo_tryAll_109 c0 c1 c2 I Z) 109 :=
  r_iload F d_Mo_tryAll_109 <| (o_Mo_tryAll_111 h0 h1 h2 F hr hlk hI)
theorem o_Mo_tryAll_104 {X : ra_X} {p : Program} {l : Launch} {e : Env} {s : State} {m : MethodId} {args : Array Value} {below : List Frame} {meth : Method} {c : Code} {Z : ra_R} {c0 c1 c2 : ra_Sp}  (h0 : ra_MOK l X mi_Co_choose c0) (h1 : ra_MOK l X mi_Mo_passAmongGrudges c1) (h2 : ra_MOK l X mi_Mo_keepsDry c2) (F : ra_Fx X p rm_Mo_tryAll s m args c prog_6_method_3_code 8 cn_Mo) (hr : meth.sig.returnType = none) (hlk : meth.locks = false) {I : Nat → ra_K} (hI : ∀ t ∈ [10, 24, 79, 122], ra_At X p l e rm_Mo_tryAll s m args below meth c 8 (MQ below (ra_Qc X Z) args s 0 0 (ra_A X)) (I t) t) : ra_At X p l e rm_Mo_tryAll s m args below meth c 8 (MQ below (ra_Qc X Z) args s 0 0 (ra_A X)) (b_Mo_tryAll_104 c0 c1 c2 I Z) 104 :=
  r_iload F d_Mo_tryAll_104 <| r_goto F d_Mo_tryAll_106 (by decide) (o_Mo_tryAll_111 h0 h1 h2 F hr hlk hI)
theorem o_Mo_tryAll_95 {X : ra_X} {p : Program} {l : Launch} {e : Env} {s : State} {m : MethodId} {args : Array Value} {below : List Frame} {meth : Method} {c : Code} {Z : ra_R} {c0 c1 c2 : ra_Sp}  (h0 : ra_MOK l X mi_Co_choose c0) (h1 : ra_MOK l X mi_Mo_passAmongGrudges c1) (h2 : ra_MOK l X mi_Mo_keepsDry c2) (F : ra_Fx X p rm_Mo_tryAll s m args c prog_6_method_3_code 8 cn_Mo) (hr : meth.sig.returnType = none) (hlk : meth.locks = false) {I : Nat → ra_K} (hI : ∀ t ∈ [10, 24, 79, 122], ra_At X p l e rm_Mo_tryAll s m args below meth c 8 (MQ below (ra_Qc X Z) args s 0 0 (ra_A X)) (I t) t) : ra_At X p l e rm_Mo_tryAll s m args below meth c 8 (MQ below (ra_Qc X Z) args s 0 0 (ra_A X)) (b_Mo_tryAll_95 c0 c1 c2 I Z) 95 :=
  r_iinc F d_Mo_tryAll_95 (by decide) (by decide) <| r_iload F d_Mo_tryAll_98 <| r_iconst F d_Mo_tryAll_100 (by decide) <| r_icmp_ne F d_Mo_tryAll_101 (by decide) (o_Mo_tryAll_109 h0 h1 h2 F hr hlk hI) (o_Mo_tryAll_104 h0 h1 h2 F hr hlk hI)
theorem o_Mo_tryAll_86 {X : ra_X} {p : Program} {l : Launch} {e : Env} {s : State} {m : MethodId} {args : Array Value} {below : List Frame} {meth : Method} {c : Code} {Z : ra_R} {c0 c1 c2 : ra_Sp}  (h0 : ra_MOK l X mi_Co_choose c0) (h1 : ra_MOK l X mi_Mo_passAmongGrudges c1) (h2 : ra_MOK l X mi_Mo_keepsDry c2) (F : ra_Fx X p rm_Mo_tryAll s m args c prog_6_method_3_code 8 cn_Mo) (hr : meth.sig.returnType = none) (hlk : meth.locks = false) {I : Nat → ra_K} (hI : ∀ t ∈ [10, 24, 79, 122], ra_At X p l e rm_Mo_tryAll s m args below meth c 8 (MQ below (ra_Qc X Z) args s 0 0 (ra_A X)) (I t) t) : ra_At X p l e rm_Mo_tryAll s m args below meth c 8 (MQ below (ra_Qc X Z) args s 0 0 (ra_A X)) (b_Mo_tryAll_86 c0 c1 c2 I Z) 86 :=
  r_aload_n F d_Mo_tryAll_86 rfl <| r_iload F d_Mo_tryAll_87 <| r_callV F h2 (co_Mo_keepsDry (by decide +kernel) (by decide +kernel)) ⟨rfl, by decide +kernel⟩ ⟨rfl, by decide⟩ ml_Mo_67 im_Mo_keepsDry se_Mo_keepsDry d_Mo_tryAll_89 <| r_if_eq F d_Mo_tryAll_92 (by decide) (o_Mo_tryAll_113 h0 h1 h2 F hr hlk hI) (o_Mo_tryAll_95 h0 h1 h2 F hr hlk hI)
theorem o_Mo_tryAll_79 {X : ra_X} {p : Program} {l : Launch} {e : Env} {s : State} {m : MethodId} {args : Array Value} {below : List Frame} {meth : Method} {c : Code} {Z : ra_R} {c0 c1 c2 : ra_Sp}  (h0 : ra_MOK l X mi_Co_choose c0) (h1 : ra_MOK l X mi_Mo_passAmongGrudges c1) (h2 : ra_MOK l X mi_Mo_keepsDry c2) (F : ra_Fx X p rm_Mo_tryAll s m args c prog_6_method_3_code 8 cn_Mo) (hr : meth.sig.returnType = none) (hlk : meth.locks = false) {I : Nat → ra_K} (hI : ∀ t ∈ [10, 24, 79, 122], ra_At X p l e rm_Mo_tryAll s m args below meth c 8 (MQ below (ra_Qc X Z) args s 0 0 (ra_A X)) (I t) t) : ra_At X p l e rm_Mo_tryAll s m args below meth c 8 (MQ below (ra_Qc X Z) args s 0 0 (ra_A X)) (b_Mo_tryAll_79 c0 c1 c2 I Z) 79 :=
  r_iload F d_Mo_tryAll_79 <| r_iload F d_Mo_tryAll_81 <| r_icmp_ge F d_Mo_tryAll_83 (by decide) (o_Mo_tryAll_119 h0 h1 h2 F hr hlk hI) (o_Mo_tryAll_86 h0 h1 h2 F hr hlk hI)
theorem o_Mo_tryAll_58 {X : ra_X} {p : Program} {l : Launch} {e : Env} {s : State} {m : MethodId} {args : Array Value} {below : List Frame} {meth : Method} {c : Code} {Z : ra_R} {c0 c1 c2 : ra_Sp}  (h0 : ra_MOK l X mi_Co_choose c0) (h1 : ra_MOK l X mi_Mo_passAmongGrudges c1) (h2 : ra_MOK l X mi_Mo_keepsDry c2) (F : ra_Fx X p rm_Mo_tryAll s m args c prog_6_method_3_code 8 cn_Mo) (hr : meth.sig.returnType = none) (hlk : meth.locks = false) {I : Nat → ra_K} (hI : ∀ t ∈ [10, 24, 79, 122], ra_At X p l e rm_Mo_tryAll s m args below meth c 8 (MQ below (ra_Qc X Z) args s 0 0 (ra_A X)) (I t) t) : ra_At X p l e rm_Mo_tryAll s m args below meth c 8 (MQ below (ra_Qc X Z) args s 0 0 (ra_A X)) (b_Mo_tryAll_58 c0 c1 c2 I Z) 58 :=
  r_iconst F d_Mo_tryAll_58 (by decide) <| r_istore_n F d_Mo_tryAll_59 rfl (by decide) <| r_iconst F d_Mo_tryAll_60 (by decide) <| r_istore F d_Mo_tryAll_61 (by decide) <| r_iconst F d_Mo_tryAll_63 (by decide) <| r_iconst F d_Mo_tryAll_64 (by decide) <| r_aload_n F d_Mo_tryAll_65 rfl <| r_getR F cg_Mo (j := 2) (by decide) rfl fl_Mo_41 d_Mo_tryAll_66 <| r_getI F cg_Co (j := 9) (by decide) rfl fl_Mo_57 d_Mo_tryAll_69 <| r_imul F d_Mo_tryAll_72 <| r_ishl F d_Mo_tryAll_73 <| r_istore F d_Mo_tryAll_74 (by decide) <| r_iconst F d_Mo_tryAll_76 (by decide) <| r_istore F d_Mo_tryAll_77 (by decide) <| (hI 79 (by decide))
theorem o_Mo_tryAll_52 {X : ra_X} {p : Program} {l : Launch} {e : Env} {s : State} {m : MethodId} {args : Array Value} {below : List Frame} {meth : Method} {c : Code} {Z : ra_R} {c0 c1 c2 : ra_Sp}  (h0 : ra_MOK l X mi_Co_choose c0) (h1 : ra_MOK l X mi_Mo_passAmongGrudges c1) (h2 : ra_MOK l X mi_Mo_keepsDry c2) (F : ra_Fx X p rm_Mo_tryAll s m args c prog_6_method_3_code 8 cn_Mo) (hr : meth.sig.returnType = none) (hlk : meth.locks = false) {I : Nat → ra_K} (hI : ∀ t ∈ [10, 24, 79, 122], ra_At X p l e rm_Mo_tryAll s m args below meth c 8 (MQ below (ra_Qc X Z) args s 0 0 (ra_A X)) (I t) t) : ra_At X p l e rm_Mo_tryAll s m args below meth c 8 (MQ below (ra_Qc X Z) args s 0 0 (ra_A X)) (b_Mo_tryAll_52 c0 c1 c2 I Z) 52 :=
  r_iinc F d_Mo_tryAll_52 (by decide) (by decide) <| r_goto F d_Mo_tryAll_55 (by decide) (hI 10 (by decide))
theorem o_Mo_tryAll_30 {X : ra_X} {p : Program} {l : Launch} {e : Env} {s : State} {m : MethodId} {args : Array Value} {below : List Frame} {meth : Method} {c : Code} {Z : ra_R} {c0 c1 c2 : ra_Sp}  (h0 : ra_MOK l X mi_Co_choose c0) (h1 : ra_MOK l X mi_Mo_passAmongGrudges c1) (h2 : ra_MOK l X mi_Mo_keepsDry c2) (F : ra_Fx X p rm_Mo_tryAll s m args c prog_6_method_3_code 8 cn_Mo) (hr : meth.sig.returnType = none) (hlk : meth.locks = false) {I : Nat → ra_K} (hI : ∀ t ∈ [10, 24, 79, 122], ra_At X p l e rm_Mo_tryAll s m args below meth c 8 (MQ below (ra_Qc X Z) args s 0 0 (ra_A X)) (I t) t) : ra_At X p l e rm_Mo_tryAll s m args below meth c 8 (MQ below (ra_Qc X Z) args s 0 0 (ra_A X)) (b_Mo_tryAll_30 c0 c1 c2 I Z) 30 :=
  r_aload_n F d_Mo_tryAll_30 rfl <| r_aload_n F d_Mo_tryAll_31 rfl <| r_getR F cg_Mo (j := 2) (by decide) rfl fl_Mo_41 d_Mo_tryAll_32 <| r_getR F cg_Co (j := 2) (by decide) rfl fl_Mo_60 d_Mo_tryAll_35 <| r_iload_n F d_Mo_tryAll_38 rfl <| r_iaload F d_Mo_tryAll_39 <| r_iload F d_Mo_tryAll_40 <| r_iload_n F d_Mo_tryAll_42 rfl <| r_callV F h1 (co_Mo_passAmongGrudges (by decide +kernel) (by decide +kernel)) ⟨rfl, by decide +kernel⟩ ⟨rfl, by decide⟩ ml_Mo_63 im_Mo_passAmongGrudges se_Mo_passAmongGrudges d_Mo_tryAll_43 <| r_iinc F d_Mo_tryAll_46 (by decide) (by decide) <| r_goto F d_Mo_tryAll_49 (by decide) (hI 24 (by decide))
theorem o_Mo_tryAll_24 {X : ra_X} {p : Program} {l : Launch} {e : Env} {s : State} {m : MethodId} {args : Array Value} {below : List Frame} {meth : Method} {c : Code} {Z : ra_R} {c0 c1 c2 : ra_Sp}  (h0 : ra_MOK l X mi_Co_choose c0) (h1 : ra_MOK l X mi_Mo_passAmongGrudges c1) (h2 : ra_MOK l X mi_Mo_keepsDry c2) (F : ra_Fx X p rm_Mo_tryAll s m args c prog_6_method_3_code 8 cn_Mo) (hr : meth.sig.returnType = none) (hlk : meth.locks = false) {I : Nat → ra_K} (hI : ∀ t ∈ [10, 24, 79, 122], ra_At X p l e rm_Mo_tryAll s m args below meth c 8 (MQ below (ra_Qc X Z) args s 0 0 (ra_A X)) (I t) t) : ra_At X p l e rm_Mo_tryAll s m args below meth c 8 (MQ below (ra_Qc X Z) args s 0 0 (ra_A X)) (b_Mo_tryAll_24 c0 c1 c2 I Z) 24 :=
  r_iload F d_Mo_tryAll_24 <| r_iconst F d_Mo_tryAll_26 (by decide) <| r_icmp_ge F d_Mo_tryAll_27 (by decide) (o_Mo_tryAll_52 h0 h1 h2 F hr hlk hI) (o_Mo_tryAll_30 h0 h1 h2 F hr hlk hI)
theorem o_Mo_tryAll_21 {X : ra_X} {p : Program} {l : Launch} {e : Env} {s : State} {m : MethodId} {args : Array Value} {below : List Frame} {meth : Method} {c : Code} {Z : ra_R} {c0 c1 c2 : ra_Sp}  (h0 : ra_MOK l X mi_Co_choose c0) (h1 : ra_MOK l X mi_Mo_passAmongGrudges c1) (h2 : ra_MOK l X mi_Mo_keepsDry c2) (F : ra_Fx X p rm_Mo_tryAll s m args c prog_6_method_3_code 8 cn_Mo) (hr : meth.sig.returnType = none) (hlk : meth.locks = false) {I : Nat → ra_K} (hI : ∀ t ∈ [10, 24, 79, 122], ra_At X p l e rm_Mo_tryAll s m args below meth c 8 (MQ below (ra_Qc X Z) args s 0 0 (ra_A X)) (I t) t) : ra_At X p l e rm_Mo_tryAll s m args below meth c 8 (MQ below (ra_Qc X Z) args s 0 0 (ra_A X)) (b_Mo_tryAll_21 c0 c1 c2 I Z) 21 :=
  r_iconst F d_Mo_tryAll_21 (by decide) <| r_istore F d_Mo_tryAll_22 (by decide) <| (hI 24 (by decide))
theorem o_Mo_tryAll_10 {X : ra_X} {p : Program} {l : Launch} {e : Env} {s : State} {m : MethodId} {args : Array Value} {below : List Frame} {meth : Method} {c : Code} {Z : ra_R} {c0 c1 c2 : ra_Sp}  (h0 : ra_MOK l X mi_Co_choose c0) (h1 : ra_MOK l X mi_Mo_passAmongGrudges c1) (h2 : ra_MOK l X mi_Mo_keepsDry c2) (F : ra_Fx X p rm_Mo_tryAll s m args c prog_6_method_3_code 8 cn_Mo) (hr : meth.sig.returnType = none) (hlk : meth.locks = false) {I : Nat → ra_K} (hI : ∀ t ∈ [10, 24, 79, 122], ra_At X p l e rm_Mo_tryAll s m args below meth c 8 (MQ below (ra_Qc X Z) args s 0 0 (ra_A X)) (I t) t) : ra_At X p l e rm_Mo_tryAll s m args below meth c 8 (MQ below (ra_Qc X Z) args s 0 0 (ra_A X)) (b_Mo_tryAll_10 c0 c1 c2 I Z) 10 :=
  r_iload_n F d_Mo_tryAll_10 rfl <| r_aload_n F d_Mo_tryAll_11 rfl <| r_getR F cg_Mo (j := 2) (by decide) rfl fl_Mo_41 d_Mo_tryAll_12 <| r_getI F cg_Co (j := 9) (by decide) rfl fl_Mo_57 d_Mo_tryAll_15 <| r_icmp_ge F d_Mo_tryAll_18 (by decide) (o_Mo_tryAll_58 h0 h1 h2 F hr hlk hI) (o_Mo_tryAll_21 h0 h1 h2 F hr hlk hI)
theorem o_Mo_tryAll_0 {X : ra_X} {p : Program} {l : Launch} {e : Env} {s : State} {m : MethodId} {args : Array Value} {below : List Frame} {meth : Method} {c : Code} {Z : ra_R} {c0 c1 c2 : ra_Sp}  (h0 : ra_MOK l X mi_Co_choose c0) (h1 : ra_MOK l X mi_Mo_passAmongGrudges c1) (h2 : ra_MOK l X mi_Mo_keepsDry c2) (F : ra_Fx X p rm_Mo_tryAll s m args c prog_6_method_3_code 8 cn_Mo) (hr : meth.sig.returnType = none) (hlk : meth.locks = false) {I : Nat → ra_K} (hI : ∀ t ∈ [10, 24, 79, 122], ra_At X p l e rm_Mo_tryAll s m args below meth c 8 (MQ below (ra_Qc X Z) args s 0 0 (ra_A X)) (I t) t) : ra_At X p l e rm_Mo_tryAll s m args below meth c 8 (MQ below (ra_Qc X Z) args s 0 0 (ra_A X)) (b_Mo_tryAll_0 c0 c1 c2 I Z) 0 :=
  r_aload_n F d_Mo_tryAll_0 rfl <| r_getR F cg_Mo (j := 2) (by decide) rfl fl_Mo_41 d_Mo_tryAll_1 <| r_iload_n F d_Mo_tryAll_4 rfl <| r_callV F h0 (co_Co_choose (by decide +kernel) (by decide +kernel)) ⟨rfl, by decide +kernel⟩ ⟨rfl, by decide⟩ ml_Mo_53 im_Co_choose se_Co_choose d_Mo_tryAll_5 <| r_iconst F d_Mo_tryAll_8 (by decide) <| r_istore_n F d_Mo_tryAll_9 rfl (by decide) <| (hI 10 (by decide))
theorem g_Mo_tryAll {l : Launch} {X : ra_X} {c0 c1 c2 : ra_Sp}  (h0 : ra_MOK l X mi_Co_choose c0) (h1 : ra_MOK l X mi_Mo_passAmongGrudges c1) (h2 : ra_MOK l X mi_Mo_keepsDry c2) (sp : ra_Sp) (I : ra_R → List Value → ra_St → Nat → ra_M → ra_K) (ve : ∀ as σ Z, ra_c1 as = true → as.length = 3 → sp as σ Z → b_Mo_tryAll_0 c0 c1 c2 (ra_I (I Z as σ)) Z (ra_pad 8 as) [] σ) (v10 : ∀ as σ Z, sp as σ Z → ∀ μ L S σ1, I Z as σ 10 μ L S σ1 → b_Mo_tryAll_10 c0 c1 c2 (ra_J (I Z as σ) μ) Z L S σ1) (v24 : ∀ as σ Z, sp as σ Z → ∀ μ L S σ1, I Z as σ 24 μ L S σ1 → b_Mo_tryAll_24 c0 c1 c2 (ra_J (I Z as σ) μ) Z L S σ1) (v79 : ∀ as σ Z, sp as σ Z → ∀ μ L S σ1, I Z as σ 79 μ L S σ1 → b_Mo_tryAll_79 c0 c1 c2 (ra_J (I Z as σ) μ) Z L S σ1) (v122 : ∀ as σ Z, sp as σ Z → ∀ μ L S σ1, I Z as σ 122 μ L S σ1 → b_Mo_tryAll_122 c0 c1 c2 (ra_J (I Z as σ) μ) Z L S σ1) : ra_MOK l X mi_Mo_tryAll sp := by
  refine ra_enter (k := fun Z as σ => b_Mo_tryAll_0 c0 c1 c2 (ra_I (I Z as σ)) Z) cn_Mo rfl (by decide +kernel) ⟨by decide +kernel, by decide +kernel⟩ (by decide +kernel) ?_ ve
  intro p e s m args below meth c Z as σ hsp F hr hlk
  refine o_Mo_tryAll_0 h0 h1 h2 F hr hlk (ra_cuts (b := fun t J => if t = 10 then b_Mo_tryAll_10 c0 c1 c2 J Z else if t = 24 then b_Mo_tryAll_24 c0 c1 c2 J Z else if t = 79 then b_Mo_tryAll_79 c0 c1 c2 J Z else if t = 122 then b_Mo_tryAll_122 c0 c1 c2 J Z else fun _ _ _ => False) ?_ ?_)
  · intro t ht J hJ
    simp only [List.mem_cons, List.not_mem_nil, or_false] at ht
    rcases ht with rfl | rfl | rfl | rfl
    · exact o_Mo_tryAll_10 h0 h1 h2 F hr hlk hJ
    · exact o_Mo_tryAll_24 h0 h1 h2 F hr hlk hJ
    · exact o_Mo_tryAll_79 h0 h1 h2 F hr hlk hJ
    · exact o_Mo_tryAll_122 h0 h1 h2 F hr hlk hJ
  · intro t ht μ L S σ1 hI
    simp only [List.mem_cons, List.not_mem_nil, or_false] at ht
    rcases ht with rfl | rfl | rfl | rfl
    · exact v10 as σ Z hsp μ L S σ1 hI
    · exact v24 as σ Z hsp μ L S σ1 hI
    · exact v79 as σ Z hsp μ L S σ1 hI
    · exact v122 as σ Z hsp μ L S σ1 hI
