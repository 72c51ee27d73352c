theorem d_N_forget_0 : decode prog_13_method_50_code 0 = .ok (.aload_n 0, 1) := by decide +kernel
theorem d_N_forget_1 : decode prog_13_method_50_code 1 = .ok (.getfield 203, 3) := by decide +kernel
theorem d_N_forget_4 : decode prog_13_method_50_code 4 = .ok (.istore_n 1, 1) := by decide +kernel
theorem d_N_forget_5 : decode prog_13_method_50_code 5 = .ok (.aload_n 0, 1) := by decide +kernel
theorem d_N_forget_6 : decode prog_13_method_50_code 6 = .ok (.iconst 0, 1) := by decide +kernel
theorem d_N_forget_7 : decode prog_13_method_50_code 7 = .ok (.putfield 203, 3) := by decide +kernel
theorem d_N_forget_10 : decode prog_13_method_50_code 10 = .ok (.iload_n 1, 1) := by decide +kernel
theorem d_N_forget_11 : decode prog_13_method_50_code 11 = .ok (.ireturn, 1) := by decide +kernel
def b_N_forget_0 (Z : ra_R) : ra_K := w_al 0 <| w_gi 11 22 <| w_is 1 <| w_al 0 <| w_c 0 <| w_pi 11 22 <| w_il 1 <| w_ir Z
theorem o_N_forget_0 {X : ra_X} {p : Program} {l : Launch} {e : Env} {s : State} {m : MethodId} {args : Array Value} {below : List Frame} {meth : Method} {c : Code} {Z : ra_R}  (F : ra_Fx X p rm_N_forget s m args c prog_13_method_50_code 2 cn_N) (hr : meth.sig.returnType = (some .int)) (hlk : meth.locks = false) : ra_At X p l e rm_N_forget s m args below meth c 2 (MQ below (ra_Qc X Z) args s 0 0 (ra_A X)) (b_N_forget_0 Z) 0 :=
  r_aload_n F d_N_forget_0 rfl <| r_getI F cg_N (j := 22) (by decide) rfl fl_N_203 d_N_forget_1 <| r_istore_n F d_N_forget_4 rfl (by decide) <| r_aload_n F d_N_forget_5 rfl <| r_iconst F d_N_forget_6 (by decide) <| r_putI F cg_N (j := 22) (by decide) rfl rfl rfl fl_N_203 d_N_forget_7 <| r_iload_n F d_N_forget_10 rfl <| r_ireturn F hr hlk d_N_forget_11
theorem g_N_forget {l : Launch} {X : ra_X}  (sp : ra_Sp) (ve : ∀ as σ Z, ra_c1 as = true → as.length = 1 → sp as σ Z → b_N_forget_0 Z (ra_pad 2 as) [] σ) : ra_MOK l X mi_N_forget sp := by
  refine ra_enter (k := fun Z as σ => b_N_forget_0 Z) cn_N rfl (by decide +kernel) ⟨by decide +kernel, by decide +kernel⟩ (by decide +kernel) ?_ ve
  intro p e s m args below meth c Z as σ hsp F hr hlk
  exact o_N_forget_0 F hr hlk

theorem d_N_laysMay_0 : decode prog_13_method_51_code 0 = .ok (.aload_n 0, 1) := by decide +kernel
theorem d_N_laysMay_1 : decode prog_13_method_51_code 1 = .ok (.invokevirtual 134, 3) := by decide +kernel
theorem d_N_laysMay_4 : decode prog_13_method_51_code 4 = .ok (.iconst 0, 1) := by decide +kernel
theorem d_N_laysMay_5 : decode prog_13_method_51_code 5 = .ok (.istore_n 1, 1) := by decide +kernel
theorem d_N_laysMay_6 : decode prog_13_method_51_code 6 = .ok (.iload_n 1, 1) := by decide +kernel
theorem d_N_laysMay_7 : decode prog_13_method_51_code 7 = .ok (.aload_n 0, 1) := by decide +kernel
theorem d_N_laysMay_8 : decode prog_13_method_51_code 8 = .ok (.getfield 109, 3) := by decide +kernel
theorem d_N_laysMay_11 : decode prog_13_method_51_code 11 = .ok (.if_icmp .ge 23, 3) := by decide +kernel
theorem d_N_laysMay_14 : decode prog_13_method_51_code 14 = .ok (.aload_n 0, 1) := by decide +kernel
theorem d_N_laysMay_15 : decode prog_13_method_51_code 15 = .ok (.getfield 79, 3) := by decide +kernel
theorem d_N_laysMay_18 : decode prog_13_method_51_code 18 = .ok (.iload_n 1, 1) := by decide +kernel
theorem d_N_laysMay_19 : decode prog_13_method_51_code 19 = .ok (.iconst 1, 1) := by decide +kernel
theorem d_N_laysMay_20 : decode prog_13_method_51_code 20 = .ok (.aload_n 0, 1) := by decide +kernel
theorem d_N_laysMay_21 : decode prog_13_method_51_code 21 = .ok (.getfield 109, 3) := by decide +kernel
theorem d_N_laysMay_24 : decode prog_13_method_51_code 24 = .ok (.ishl, 1) := by decide +kernel
theorem d_N_laysMay_25 : decode prog_13_method_51_code 25 = .ok (.iconst 1, 1) := by decide +kernel
theorem d_N_laysMay_26 : decode prog_13_method_51_code 26 = .ok (.isub, 1) := by decide +kernel
theorem d_N_laysMay_27 : decode prog_13_method_51_code 27 = .ok (.iastore, 1) := by decide +kernel
theorem d_N_laysMay_28 : decode prog_13_method_51_code 28 = .ok (.iinc 1 1, 3) := by decide +kernel
theorem d_N_laysMay_31 : decode prog_13_method_51_code 31 = .ok (.goto (-25), 3) := by decide +kernel
theorem d_N_laysMay_34 : decode prog_13_method_51_code 34 = .ok (.iconst 0, 1) := by decide +kernel
theorem d_N_laysMay_35 : decode prog_13_method_51_code 35 = .ok (.istore_n 1, 1) := by decide +kernel
theorem d_N_laysMay_36 : decode prog_13_method_51_code 36 = .ok (.iload_n 1, 1) := by decide +kernel
theorem d_N_laysMay_37 : decode prog_13_method_51_code 37 = .ok (.aload_n 0, 1) := by decide +kernel
theorem d_N_laysMay_38 : decode prog_13_method_51_code 38 = .ok (.getfield 203, 3) := by decide +kernel
theorem d_N_laysMay_41 : decode prog_13_method_51_code 41 = .ok (.if_icmp .ge 164, 3) := by decide +kernel
theorem d_N_laysMay_44 : decode prog_13_method_51_code 44 = .ok (.aload_n 0, 1) := by decide +kernel
theorem d_N_laysMay_45 : decode prog_13_method_51_code 45 = .ok (.getfield 70, 3) := by decide +kernel
theorem d_N_laysMay_48 : decode prog_13_method_51_code 48 = .ok (.iload_n 1, 1) := by decide +kernel
theorem d_N_laysMay_49 : decode prog_13_method_51_code 49 = .ok (.iaload, 1) := by decide +kernel
theorem d_N_laysMay_50 : decode prog_13_method_51_code 50 = .ok (.aload_n 0, 1) := by decide +kernel
theorem d_N_laysMay_51 : decode prog_13_method_51_code 51 = .ok (.getfield 109, 3) := by decide +kernel
theorem d_N_laysMay_54 : decode prog_13_method_51_code 54 = .ok (.if_icmp .ge 20, 3) := by decide +kernel
theorem d_N_laysMay_57 : decode prog_13_method_51_code 57 = .ok (.aload_n 0, 1) := by decide +kernel
theorem d_N_laysMay_58 : decode prog_13_method_51_code 58 = .ok (.getfield 73, 3) := by decide +kernel
theorem d_N_laysMay_61 : decode prog_13_method_51_code 61 = .ok (.iload_n 1, 1) := by decide +kernel
theorem d_N_laysMay_62 : decode prog_13_method_51_code 62 = .ok (.iaload, 1) := by decide +kernel
theorem d_N_laysMay_63 : decode prog_13_method_51_code 63 = .ok (.aload_n 0, 1) := by decide +kernel
theorem d_N_laysMay_64 : decode prog_13_method_51_code 64 = .ok (.getfield 109, 3) := by decide +kernel
theorem d_N_laysMay_67 : decode prog_13_method_51_code 67 = .ok (.if_icmp .ge 7, 3) := by decide +kernel
theorem d_N_laysMay_70 : decode prog_13_method_51_code 70 = .ok (.iconst 1, 1) := by decide +kernel
theorem d_N_laysMay_71 : decode prog_13_method_51_code 71 = .ok (.goto 4, 3) := by decide +kernel
theorem d_N_laysMay_74 : decode prog_13_method_51_code 74 = .ok (.iconst 0, 1) := by decide +kernel
theorem d_N_laysMay_75 : decode prog_13_method_51_code 75 = .ok (.istore_n 2, 1) := by decide +kernel
theorem d_N_laysMay_76 : decode prog_13_method_51_code 76 = .ok (.iload_n 2, 1) := by decide +kernel
theorem d_N_laysMay_77 : decode prog_13_method_51_code 77 = .ok (.ifCond .eq 36, 3) := by decide +kernel
theorem d_N_laysMay_80 : decode prog_13_method_51_code 80 = .ok (.aload_n 0, 1) := by decide +kernel
theorem d_N_laysMay_81 : decode prog_13_method_51_code 81 = .ok (.getfield 76, 3) := by decide +kernel
theorem d_N_laysMay_84 : decode prog_13_method_51_code 84 = .ok (.iload_n 1, 1) := by decide +kernel
theorem d_N_laysMay_85 : decode prog_13_method_51_code 85 = .ok (.iaload, 1) := by decide +kernel
theorem d_N_laysMay_86 : decode prog_13_method_51_code 86 = .ok (.ifCond .ne 27, 3) := by decide +kernel
theorem d_N_laysMay_89 : decode prog_13_method_51_code 89 = .ok (.aload_n 0, 1) := by decide +kernel
theorem d_N_laysMay_90 : decode prog_13_method_51_code 90 = .ok (.getfield 79, 3) := by decide +kernel
theorem d_N_laysMay_93 : decode prog_13_method_51_code 93 = .ok (.aload_n 0, 1) := by decide +kernel
theorem d_N_laysMay_94 : decode prog_13_method_51_code 94 = .ok (.getfield 70, 3) := by decide +kernel
theorem d_N_laysMay_97 : decode prog_13_method_51_code 97 = .ok (.iload_n 1, 1) := by decide +kernel
theorem d_N_laysMay_98 : decode prog_13_method_51_code 98 = .ok (.iaload, 1) := by decide +kernel
theorem d_N_laysMay_99 : decode prog_13_method_51_code 99 = .ok (.dup2, 1) := by decide +kernel
theorem d_N_laysMay_100 : decode prog_13_method_51_code 100 = .ok (.iaload, 1) := by decide +kernel
theorem d_N_laysMay_101 : decode prog_13_method_51_code 101 = .ok (.iconst 1, 1) := by decide +kernel
theorem d_N_laysMay_102 : decode prog_13_method_51_code 102 = .ok (.aload_n 0, 1) := by decide +kernel
theorem d_N_laysMay_103 : decode prog_13_method_51_code 103 = .ok (.getfield 73, 3) := by decide +kernel
theorem d_N_laysMay_106 : decode prog_13_method_51_code 106 = .ok (.iload_n 1, 1) := by decide +kernel
theorem d_N_laysMay_107 : decode prog_13_method_51_code 107 = .ok (.iaload, 1) := by decide +kernel
theorem d_N_laysMay_108 : decode prog_13_method_51_code 108 = .ok (.ishl, 1) := by decide +kernel
theorem d_N_laysMay_109 : decode prog_13_method_51_code 109 = .ok (.iconst (-1), 1) := by decide +kernel
theorem d_N_laysMay_110 : decode prog_13_method_51_code 110 = .ok (.ixor, 1) := by decide +kernel
theorem d_N_laysMay_111 : decode prog_13_method_51_code 111 = .ok (.iand, 1) := by decide +kernel
theorem d_N_laysMay_112 : decode prog_13_method_51_code 112 = .ok (.iastore, 1) := by decide +kernel
theorem d_N_laysMay_113 : decode prog_13_method_51_code 113 = .ok (.iconst 0, 1) := by decide +kernel
theorem d_N_laysMay_114 : decode prog_13_method_51_code 114 = .ok (.istore_n 3, 1) := by decide +kernel
theorem d_N_laysMay_115 : decode prog_13_method_51_code 115 = .ok (.iload_n 3, 1) := by decide +kernel
theorem d_N_laysMay_116 : decode prog_13_method_51_code 116 = .ok (.aload_n 0, 1) := by decide +kernel
theorem d_N_laysMay_117 : decode prog_13_method_51_code 117 = .ok (.getfield 109, 3) := by decide +kernel
theorem d_N_laysMay_120 : decode prog_13_method_51_code 120 = .ok (.if_icmp .ge 79, 3) := by decide +kernel
theorem d_N_laysMay_123 : decode prog_13_method_51_code 123 = .ok (.aload_n 0, 1) := by decide +kernel
theorem d_N_laysMay_124 : decode prog_13_method_51_code 124 = .ok (.getfield 76, 3) := by decide +kernel
theorem d_N_laysMay_127 : decode prog_13_method_51_code 127 = .ok (.iload_n 1, 1) := by decide +kernel
theorem d_N_laysMay_128 : decode prog_13_method_51_code 128 = .ok (.iaload, 1) := by decide +kernel
theorem d_N_laysMay_129 : decode prog_13_method_51_code 129 = .ok (.iconst 1, 1) := by decide +kernel
theorem d_N_laysMay_130 : decode prog_13_method_51_code 130 = .ok (.if_icmp .ne 69, 3) := by decide +kernel
theorem d_N_laysMay_133 : decode prog_13_method_51_code 133 = .ok (.iload_n 3, 1) := by decide +kernel
theorem d_N_laysMay_134 : decode prog_13_method_51_code 134 = .ok (.aload_n 0, 1) := by decide +kernel
theorem d_N_laysMay_135 : decode prog_13_method_51_code 135 = .ok (.getfield 70, 3) := by decide +kernel
theorem d_N_laysMay_138 : decode prog_13_method_51_code 138 = .ok (.iload_n 1, 1) := by decide +kernel
theorem d_N_laysMay_139 : decode prog_13_method_51_code 139 = .ok (.iaload, 1) := by decide +kernel
theorem d_N_laysMay_140 : decode prog_13_method_51_code 140 = .ok (.if_icmp .ne 7, 3) := by decide +kernel
theorem d_N_laysMay_143 : decode prog_13_method_51_code 143 = .ok (.iconst 1, 1) := by decide +kernel
theorem d_N_laysMay_144 : decode prog_13_method_51_code 144 = .ok (.goto 4, 3) := by decide +kernel
theorem d_N_laysMay_147 : decode prog_13_method_51_code 147 = .ok (.iconst 0, 1) := by decide +kernel
theorem d_N_laysMay_148 : decode prog_13_method_51_code 148 = .ok (.istore 4, 2) := by decide +kernel
theorem d_N_laysMay_150 : decode prog_13_method_51_code 150 = .ok (.aload_n 0, 1) := by decide +kernel
theorem d_N_laysMay_151 : decode prog_13_method_51_code 151 = .ok (.getfield 79, 3) := by decide +kernel
theorem d_N_laysMay_154 : decode prog_13_method_51_code 154 = .ok (.iload_n 3, 1) := by decide +kernel
theorem d_N_laysMay_155 : decode prog_13_method_51_code 155 = .ok (.dup2, 1) := by decide +kernel
theorem d_N_laysMay_156 : decode prog_13_method_51_code 156 = .ok (.iaload, 1) := by decide +kernel
theorem d_N_laysMay_157 : decode prog_13_method_51_code 157 = .ok (.iload_n 2, 1) := by decide +kernel
theorem d_N_laysMay_158 : decode prog_13_method_51_code 158 = .ok (.ifCond .ne 7, 3) := by decide +kernel
theorem d_N_laysMay_161 : decode prog_13_method_51_code 161 = .ok (.iconst 0, 1) := by decide +kernel
theorem d_N_laysMay_162 : decode prog_13_method_51_code 162 = .ok (.goto 29, 3) := by decide +kernel
theorem d_N_laysMay_165 : decode prog_13_method_51_code 165 = .ok (.iload 4, 2) := by decide +kernel
theorem d_N_laysMay_167 : decode prog_13_method_51_code 167 = .ok (.ifCond .eq 14, 3) := by decide +kernel
theorem d_N_laysMay_170 : decode prog_13_method_51_code 170 = .ok (.iconst 1, 1) := by decide +kernel
theorem d_N_laysMay_171 : decode prog_13_method_51_code 171 = .ok (.aload_n 0, 1) := by decide +kernel
theorem d_N_laysMay_172 : decode prog_13_method_51_code 172 = .ok (.getfield 73, 3) := by decide +kernel
theorem d_N_laysMay_175 : decode prog_13_method_51_code 175 = .ok (.iload_n 1, 1) := by decide +kernel
theorem d_N_laysMay_176 : decode prog_13_method_51_code 176 = .ok (.iaload, 1) := by decide +kernel
theorem d_N_laysMay_177 : decode prog_13_method_51_code 177 = .ok (.ishl, 1) := by decide +kernel
theorem d_N_laysMay_178 : decode prog_13_method_51_code 178 = .ok (.goto 13, 3) := by decide +kernel
theorem d_N_laysMay_181 : decode prog_13_method_51_code 181 = .ok (.iconst 1, 1) := by decide +kernel
theorem d_N_laysMay_182 : decode prog_13_method_51_code 182 = .ok (.aload_n 0, 1) := by decide +kernel
theorem d_N_laysMay_183 : decode prog_13_method_51_code 183 = .ok (.getfield 73, 3) := by decide +kernel
theorem d_N_laysMay_186 : decode prog_13_method_51_code 186 = .ok (.iload_n 1, 1) := by decide +kernel
theorem d_N_laysMay_187 : decode prog_13_method_51_code 187 = .ok (.iaload, 1) := by decide +kernel
theorem d_N_laysMay_188 : decode prog_13_method_51_code 188 = .ok (.ishl, 1) := by decide +kernel
theorem d_N_laysMay_189 : decode prog_13_method_51_code 189 = .ok (.iconst (-1), 1) := by decide +kernel
theorem d_N_laysMay_190 : decode prog_13_method_51_code 190 = .ok (.ixor, 1) := by decide +kernel
theorem d_N_laysMay_191 : decode prog_13_method_51_code 191 = .ok (.iand, 1) := by decide +kernel
theorem d_N_laysMay_192 : decode prog_13_method_51_code 192 = .ok (.iastore, 1) := by decide +kernel
theorem d_N_laysMay_193 : decode prog_13_method_51_code 193 = .ok (.iinc 3 1, 3) := by decide +kernel
theorem d_N_laysMay_196 : decode prog_13_method_51_code 196 = .ok (.goto (-81), 3) := by decide +kernel
theorem d_N_laysMay_199 : decode prog_13_method_51_code 199 = .ok (.iinc 1 1, 3) := by decide +kernel
theorem d_N_laysMay_202 : decode prog_13_method_51_code 202 = .ok (.goto (-166), 3) := by decide +kernel
theorem d_N_laysMay_205 : decode prog_13_method_51_code 205 = .ok (.return_, 1) := by decide +kernel
def b_N_laysMay_205 (c0 : ra_Sp) (I : Nat → ra_K) (Z : ra_R) : ra_K := w_vr Z
def b_N_laysMay_199 (c0 : ra_Sp) (I : Nat → ra_K) (Z : ra_R) : ra_K := w_inc 1 1 <| (I 36)
def b_N_laysMay_191 (c0 : ra_Sp) (I : Nat → ra_K) (Z : ra_R) : ra_K := w_i2 (fun x y => x &&& y) <| w_ast <| w_inc 3 1 <| (I 115)
def b_N_laysMay_181 (c0 : ra_Sp) (I : Nat → ra_K) (Z : ra_R) : ra_K := w_c 1 <| w_al 0 <| w_gr 11 24 <| w_il 1 <| w_ald <| w_i2 (fun x y => x <<< (y &&& 31)) <| w_c (-1) <| w_i2 (fun x y => x ^^^ y) <| (b_N_laysMay_191 c0 I Z)
def b_N_laysMay_170 (c0 : ra_Sp) (I : Nat → ra_K) (Z : ra_R) : ra_K := w_c 1 <| w_al 0 <| w_gr 11 24 <| w_il 1 <| w_ald <| w_i2 (fun x y => x <<< (y &&& 31)) <| (b_N_laysMay_191 c0 I Z)
def b_N_laysMay_165 (c0 : ra_Sp) (I : Nat → ra_K) (Z : ra_R) : ra_K := w_il 4 <| w_b1 (fun x => x = 0) (b_N_laysMay_181 c0 I Z) (b_N_laysMay_170 c0 I Z)
def b_N_laysMay_161 (c0 : ra_Sp) (I : Nat → ra_K) (Z : ra_R) : ra_K := w_c 0 <| (b_N_laysMay_191 c0 I Z)
def b_N_laysMay_148 (c0 : ra_Sp) (I : Nat → ra_K) (Z : ra_R) : ra_K := w_is 4 <| w_al 0 <| w_gr 11 26 <| w_il 3 <| w_dup2 <| w_ald <| w_il 2 <| w_b1 (fun x => x = 0) (b_N_laysMay_161 c0 I Z) (b_N_laysMay_165 c0 I Z)
def b_N_laysMay_147 (c0 : ra_Sp) (I : Nat → ra_K) (Z : ra_R) : ra_K := w_c 0 <| (b_N_laysMay_148 c0 I Z)
def b_N_laysMay_143 (c0 : ra_Sp) (I : Nat → ra_K) (Z : ra_R) : ra_K := w_c 1 <| (b_N_laysMay_148 c0 I Z)
def b_N_laysMay_133 (c0 : ra_Sp) (I : Nat → ra_K) (Z : ra_R) : ra_K := w_il 3 <| w_al 0 <| w_gr 11 23 <| w_il 1 <| w_ald <| w_b2 (fun x y => x = y) (b_N_laysMay_143 c0 I Z) (b_N_laysMay_147 c0 I Z)
def b_N_laysMay_123 (c0 : ra_Sp) (I : Nat → ra_K) (Z : ra_R) : ra_K := w_al 0 <| w_gr 11 25 <| w_il 1 <| w_ald <| w_c 1 <| w_b2 (fun x y => x = y) (b_N_laysMay_133 c0 I Z) (b_N_laysMay_199 c0 I Z)
def b_N_laysMay_115 (c0 : ra_Sp) (I : Nat → ra_K) (Z : ra_R) : ra_K := w_il 3 <| w_al 0 <| w_gi 11 2 <| w_b2 (fun x y => y ≤ x) (b_N_laysMay_199 c0 I Z) (b_N_laysMay_123 c0 I Z)
def b_N_laysMay_113 (c0 : ra_Sp) (I : Nat → ra_K) (Z : ra_R) : ra_K := w_c 0 <| w_is 3 <| (I 115)
def b_N_laysMay_89 (c0 : ra_Sp) (I : Nat → ra_K) (Z : ra_R) : ra_K := w_al 0 <| w_gr 11 26 <| w_al 0 <| w_gr 11 23 <| w_il 1 <| w_ald <| w_dup2 <| w_ald <| w_c 1 <| w_al 0 <| w_gr 11 24 <| w_il 1 <| w_ald <| w_i2 (fun x y => x <<< (y &&& 31)) <| w_c (-1) <| w_i2 (fun x y => x ^^^ y) <| w_i2 (fun x y => x &&& y) <| w_ast <| (b_N_laysMay_113 c0 I Z)
def b_N_laysMay_80 (c0 : ra_Sp) (I : Nat → ra_K) (Z : ra_R) : ra_K := w_al 0 <| w_gr 11 25 <| w_il 1 <| w_ald <| w_b1 (fun x => x = 0) (b_N_laysMay_89 c0 I Z) (b_N_laysMay_113 c0 I Z)
def b_N_laysMay_75 (c0 : ra_Sp) (I : Nat → ra_K) (Z : ra_R) : ra_K := w_is 2 <| w_il 2 <| w_b1 (fun x => x = 0) (b_N_laysMay_113 c0 I Z) (b_N_laysMay_80 c0 I Z)
def b_N_laysMay_74 (c0 : ra_Sp) (I : Nat → ra_K) (Z : ra_R) : ra_K := w_c 0 <| (b_N_laysMay_75 c0 I Z)
def b_N_laysMay_70 (c0 : ra_Sp) (I : Nat → ra_K) (Z : ra_R) : ra_K := w_c 1 <| (b_N_laysMay_75 c0 I Z)
def b_N_laysMay_57 (c0 : ra_Sp) (I : Nat → ra_K) (Z : ra_R) : ra_K := w_al 0 <| w_gr 11 24 <| w_il 1 <| w_ald <| w_al 0 <| w_gi 11 2 <| w_b2 (fun x y => y ≤ x) (b_N_laysMay_74 c0 I Z) (b_N_laysMay_70 c0 I Z)
def b_N_laysMay_44 (c0 : ra_Sp) (I : Nat → ra_K) (Z : ra_R) : ra_K := w_al 0 <| w_gr 11 23 <| w_il 1 <| w_ald <| w_al 0 <| w_gi 11 2 <| w_b2 (fun x y => y ≤ x) (b_N_laysMay_74 c0 I Z) (b_N_laysMay_57 c0 I Z)
def b_N_laysMay_36 (c0 : ra_Sp) (I : Nat → ra_K) (Z : ra_R) : ra_K := w_il 1 <| w_al 0 <| w_gi 11 22 <| w_b2 (fun x y => y ≤ x) (b_N_laysMay_205 c0 I Z) (b_N_laysMay_44 c0 I Z)
def b_N_laysMay_34 (c0 : ra_Sp) (I : Nat → ra_K) (Z : ra_R) : ra_K := w_c 0 <| w_is 1 <| (I 36)
def b_N_laysMay_14 (c0 : ra_Sp) (I : Nat → ra_K) (Z : ra_R) : ra_K := w_al 0 <| w_gr 11 26 <| w_il 1 <| w_c 1 <| w_al 0 <| w_gi 11 2 <| w_i2 (fun x y => x <<< (y &&& 31)) <| w_c 1 <| w_i2 (fun x y => x - y) <| w_ast <| w_inc 1 1 <| (I 6)
def b_N_laysMay_6 (c0 : ra_Sp) (I : Nat → ra_K) (Z : ra_R) : ra_K := w_il 1 <| w_al 0 <| w_gi 11 2 <| w_b2 (fun x y => y ≤ x) (b_N_laysMay_34 c0 I Z) (b_N_laysMay_14 c0 I Z)
def b_N_laysMay_0 (c0 : ra_Sp) (I : Nat → ra_K) (Z : ra_R) : ra_K := w_al 0 <| w_cv c0 1 11 <| w_c 0 <| w_is 1 <| (I 6)
theorem o_N_laysMay_205 {X : ra_X} {p : Program} {l : Launch} {e : Env} {s : State} {m : MethodId} {args : Array Value} {below : List Frame} {meth : Method} {c : Code} {Z : ra_R} {c0 : ra_Sp}  (h0 : ra_MOK l X mi_N_reads c0) (F : ra_Fx X p rm_N_laysMay s m args c prog_13_method_51_code 5 cn_N) (hr : meth.sig.returnType = none) (hlk : meth.locks = false) {I : Nat → ra_K} (hI : ∀ t ∈ [6, 36, 115], ra_At X p l e rm_N_laysMay s m args below meth c 5 (MQ below (ra_Qc X Z) args s 0 0 (ra_A X)) (I t) t) : ra_At X p l e rm_N_laysMay s m args below meth c 5 (MQ below (ra_Qc X Z) args s 0 0 (ra_A X)) (b_N_laysMay_205 c0 I Z) 205 :=
  r_return F hr hlk d_N_laysMay_205
theorem o_N_laysMay_199 {X : ra_X} {p : Program} {l : Launch} {e : Env} {s : State} {m : MethodId} {args : Array Value} {below : List Frame} {meth : Method} {c : Code} {Z : ra_R} {c0 : ra_Sp}  (h0 : ra_MOK l X mi_N_reads c0) (F : ra_Fx X p rm_N_laysMay s m args c prog_13_method_51_code 5 cn_N) (hr : meth.sig.returnType = none) (hlk : meth.locks = false) {I : Nat → ra_K} (hI : ∀ t ∈ [6, 36, 115], ra_At X p l e rm_N_laysMay s m args below meth c 5 (MQ below (ra_Qc X Z) args s 0 0 (ra_A X)) (I t) t) : ra_At X p l e rm_N_laysMay s m args below meth c 5 (MQ below (ra_Qc X Z) args s 0 0 (ra_A X)) (b_N_laysMay_199 c0 I Z) 199 :=
  r_iinc F d_N_laysMay_199 (by decide) (by decide) <| r_goto F d_N_laysMay_202 (by decide) (hI 36 (by decide))
theorem o_N_laysMay_191 {X : ra_X} {p : Program} {l : Launch} {e : Env} {s : State} {m : MethodId} {args : Array Value} {below : List Frame} {meth : Method} {c : Code} {Z : ra_R} {c0 : ra_Sp}  (h0 : ra_MOK l X mi_N_reads c0) (F : ra_Fx X p rm_N_laysMay s m args c prog_13_method_51_code 5 cn_N) (hr : meth.sig.returnType = none) (hlk : meth.locks = false) {I : Nat → ra_K} (hI : ∀ t ∈ [6, 36, 115], ra_At X p l e rm_N_laysMay s m args below meth c 5 (MQ below (ra_Qc X Z) args s 0 0 (ra_A X)) (I t) t) : ra_At X p l e rm_N_laysMay s m args below meth c 5 (MQ below (ra_Qc X Z) args s 0 0 (ra_A X)) (b_N_laysMay_191 c0 I Z) 191 :=
  r_iand F d_N_laysMay_191 <| r_iastore F d_N_laysMay_192 <| r_iinc F d_N_laysMay_193 (by decide) (by decide) <| r_goto F d_N_laysMay_196 (by decide) (hI 115 (by decide))
theorem o_N_laysMay_181 {X : ra_X} {p : Program} {l : Launch} {e : Env} {s : State} {m : MethodId} {args : Array Value} {below : List Frame} {meth : Method} {c : Code} {Z : ra_R} {c0 : ra_Sp}  (h0 : ra_MOK l X mi_N_reads c0) (F : ra_Fx X p rm_N_laysMay s m args c prog_13_method_51_code 5 cn_N) (hr : meth.sig.returnType = none) (hlk : meth.locks = false) {I : Nat → ra_K} (hI : ∀ t ∈ [6, 36, 115], ra_At X p l e rm_N_laysMay s m args below meth c 5 (MQ below (ra_Qc X Z) args s 0 0 (ra_A X)) (I t) t) : ra_At X p l e rm_N_laysMay s m args below meth c 5 (MQ below (ra_Qc X Z) args s 0 0 (ra_A X)) (b_N_laysMay_181 c0 I Z) 181 :=
  r_iconst F d_N_laysMay_181 (by decide) <| r_aload_n F d_N_laysMay_182 rfl <| r_getR F cg_N (j := 24) (by decide) rfl fl_N_73 d_N_laysMay_183 <| r_iload_n F d_N_laysMay_186 rfl <| r_iaload F d_N_laysMay_187 <| r_ishl F d_N_laysMay_188 <| r_iconst F d_N_laysMay_189 (by decide) <| r_ixor F d_N_laysMay_190 <| (o_N_laysMay_191 h0 F hr hlk hI)
theorem o_N_laysMay_170 {X : ra_X} {p : Program} {l : Launch} {e : Env} {s : State} {m : MethodId} {args : Array Value} {below : List Frame} {meth : Method} {c : Code} {Z : ra_R} {c0 : ra_Sp}  (h0 : ra_MOK l X mi_N_reads c0) (F : ra_Fx X p rm_N_laysMay s m args c prog_13_method_51_code 5 cn_N) (hr : meth.sig.returnType = none) (hlk : meth.locks = false) {I : Nat → ra_K} (hI : ∀ t ∈ [6, 36, 115], ra_At X p l e rm_N_laysMay s m args below meth c 5 (MQ below (ra_Qc X Z) args s 0 0 (ra_A X)) (I t) t) : ra_At X p l e rm_N_laysMay s m args below meth c 5 (MQ below (ra_Qc X Z) args s 0 0 (ra_A X)) (b_N_laysMay_170 c0 I Z) 170 :=
  r_iconst F d_N_laysMay_170 (by decide) <| r_aload_n F d_N_laysMay_171 rfl <| r_getR F cg_N (j := 24) (by decide) rfl fl_N_73 d_N_laysMay_172 <| r_iload_n F d_N_laysMay_175 rfl <| r_iaload F d_N_laysMay_176 <| r_ishl F d_N_laysMay_177 <| r_goto F d_N_laysMay_178 (by decide) (o_N_laysMay_191 h0 F hr hlk hI)
theorem o_N_laysMay_165 {X : ra_X} {p : Program} {l : Launch} {e : Env} {s : State} {m : MethodId} {args : Array Value} {below : List Frame} {meth : Method} {c : Code} {Z : ra_R} {c0 : ra_Sp}  (h0 : ra_MOK l X mi_N_reads c0) (F : ra_Fx X p rm_N_laysMay s m args c prog_13_method_51_code 5 cn_N) (hr : meth.sig.returnType = none) (hlk : meth.locks = false) {I : Nat → ra_K} (hI : ∀ t ∈ [6, 36, 115], ra_At X p l e rm_N_laysMay s m args below meth c 5 (MQ below (ra_Qc X Z) args s 0 0 (ra_A X)) (I t) t) : ra_At X p l e rm_N_laysMay s m args below meth c 5 (MQ below (ra_Qc X Z) args s 0 0 (ra_A X)) (b_N_laysMay_165 c0 I Z) 165 :=
  r_iload F d_N_laysMay_165 <| r_if_eq F d_N_laysMay_167 (by decide) (o_N_laysMay_181 h0 F hr hlk hI) (o_N_laysMay_170 h0 F hr hlk hI)
theorem o_N_laysMay_161 {X : ra_X} {p : Program} {l : Launch} {e : Env} {s : State} {m : MethodId} {args : Array Value} {below : List Frame} {meth : Method} {c : Code} {Z : ra_R} {c0 : ra_Sp}  (h0 : ra_MOK l X mi_N_reads c0) (F : ra_Fx X p rm_N_laysMay s m args c prog_13_method_51_code 5 cn_N) (hr : meth.sig.returnType = none) (hlk : meth.locks = false) {I : Nat → ra_K} (hI : ∀ t ∈ [6, 36, 115], ra_At X p l e rm_N_laysMay s m args below meth c 5 (MQ below (ra_Qc X Z) args s 0 0 (ra_A X)) (I t) t) : ra_At X p l e rm_N_laysMay s m args below meth c 5 (MQ below (ra_Qc X Z) args s 0 0 (ra_A X)) (b_N_laysMay_161 c0 I Z) 161 :=
  r_iconst F d_N_laysMay_161 (by decide) <| r_goto F d_N_laysMay_162 (by decide) (o_N_laysMay_191 h0 F hr hlk hI)
theorem o_N_laysMay_148 {X : ra_X} {p : Program} {l : Launch} {e : Env} {s : State} {m : MethodId} {args : Array Value} {below : List Frame} {meth : Method} {c : Code} {Z : ra_R} {c0 : ra_Sp}  (h0 : ra_MOK l X mi_N_reads c0) (F : ra_Fx X p rm_N_laysMay s m args c prog_13_method_51_code 5 cn_N) (hr : meth.sig.returnType = none) (hlk : meth.locks = false) {I : Nat → ra_K} (hI : ∀ t ∈ [6, 36, 115], ra_At X p l e rm_N_laysMay s m args below meth c 5 (MQ below (ra_Qc X Z) args s 0 0 (ra_A X)) (I t) t) : ra_At X p l e rm_N_laysMay s m args below meth c 5 (MQ below (ra_Qc X Z) args s 0 0 (ra_A X)) (b_N_laysMay_148 c0 I Z) 148 :=
  r_istore F d_N_laysMay_148 (by decide) <| r_aload_n F d_N_laysMay_150 rfl <| r_getR F cg_N (j := 26) (by decide) rfl fl_N_79 d_N_laysMay_151 <| r_iload_n F d_N_laysMay_154 rfl <| r_dup2 F d_N_laysMay_155 <| r_iaload F d_N_laysMay_156 <| r_iload_n F d_N_laysMay_157 rfl <| r_if_ne F d_N_laysMay_158 (by decide) (o_N_laysMay_165 h0 F hr hlk hI) (o_N_laysMay_161 h0 F hr hlk hI)
theorem o_N_laysMay_147 {X : ra_X} {p : Program} {l : Launch} {e : Env} {s : State} {m : MethodId} {args : Array Value} {below : List Frame} {meth : Method} {c : Code} {Z : ra_R} {c0 : ra_Sp}  (h0 : ra_MOK l X mi_N_reads c0) (F : ra_Fx X p rm_N_laysMay s m args c prog_13_method_51_code 5 cn_N) (hr : meth.sig.returnType = none) (hlk : meth.locks = false) {I : Nat → ra_K} (hI : ∀ t ∈ [6, 36, 115], ra_At X p l e rm_N_laysMay s m args below meth c 5 (MQ below (ra_Qc X Z) args s 0 0 (ra_A X)) (I t) t) : ra_At X p l e rm_N_laysMay s m args below meth c 5 (MQ below (ra_Qc X Z) args s 0 0 (ra_A X)) (b_N_laysMay_147 c0 I Z) 147 :=
  r_iconst F d_N_laysMay_147 (by decide) <| (o_N_laysMay_148 h0 F hr hlk hI)
theorem o_N_laysMay_143 {X : ra_X} {p : Program} {l : Launch} {e : Env} {s : State} {m : MethodId} {args : Array Value} {below : List Frame} {meth : Method} {c : Code} {Z : ra_R} {c0 : ra_Sp}  (h0 : ra_MOK l X mi_N_reads c0) (F : ra_Fx X p rm_N_laysMay s m args c prog_13_method_51_code 5 cn_N) (hr : meth.sig.returnType = none) (hlk : meth.locks = false) {I : Nat → ra_K} (hI : ∀ t ∈ [6, 36, 115], ra_At X p l e rm_N_laysMay s m args below meth c 5 (MQ below (ra_Qc X Z) args s 0 0 (ra_A X)) (I t) t) : ra_At X p l e rm_N_laysMay s m args below meth c 5 (MQ below (ra_Qc X Z) args s 0 0 (ra_A X)) (b_N_laysMay_143 c0 I Z) 143 :=
  r_iconst F d_N_laysMay_143 (by decide) <| r_goto F d_N_laysMay_144 (by decide) (o_N_laysMay_148 h0 F hr hlk hI)
theorem o_N_laysMay_133 {X : ra_X} {p : Program} {l : Launch} {e : Env} {s : State} {m : MethodId} {args : Array Value} {below : List Frame} {meth : Method} {c : Code} {Z : ra_R} {c0 : ra_Sp}  (h0 : ra_MOK l X mi_N_reads c0) (F : ra_Fx X p rm_N_laysMay s m args c prog_13_method_51_code 5 cn_N) (hr : meth.sig.returnType = none) (hlk : meth.locks = false) {I : Nat → ra_K} (hI : ∀ t ∈ [6, 36, 115], ra_At X p l e rm_N_laysMay s m args below meth c 5 (MQ below (ra_Qc X Z) args s 0 0 (ra_A X)) (I t) t) : ra_At X p l e rm_N_laysMay s m args below meth c 5 (MQ below (ra_Qc X Z) args s 0 0 (ra_A X)) (b_N_laysMay_133 c0 I Z) 133 :=
  r_iload_n F d_N_laysMay_133 rfl <| r_aload_n F d_N_laysMay_134 rfl <| r_getR F cg_N (j := 23) (by decide) rfl fl_N_70 d_N_laysMay_135 <| r_iload_n F d_N_laysMay_138 rfl <| r_iaload F d_N_laysMay_139 <| r_icmp_ne F d_N_laysMay_140 (by decide) (o_N_laysMay_147 h0 F hr hlk hI) (o_N_laysMay_143 h0 F hr hlk hI)
theorem o_N_laysMay_123 {X : ra_X} {p : Program} {l : Launch} {e : Env} {s : State} {m : MethodId} {args : Array Value} {below : List Frame} {meth : Method} {c : Code} {Z : ra_R} {c0 : ra_Sp}  (h0 : ra_MOK l X mi_N_reads c0) (F : ra_Fx X p rm_N_laysMay s m args c prog_13_method_51_code 5 cn_N) (hr : meth.sig.returnType = none) (hlk : meth.locks = false) {I : Nat → ra_K} (hI : ∀ t ∈ [6, 36, 115], ra_At X p l e rm_N_laysMay s m args below meth c 5 (MQ below (ra_Qc X Z) args s 0 0 (ra_A X)) (I t) t) : ra_At X p l e rm_N_laysMay s m args below meth c 5 (MQ below (ra_Qc X Z) args s 0 0 (ra_A X)) (b_N_laysMay_123 c0 I Z) 123 :=
  r_aload_n F d_N_laysMay_123 rfl <| r_getR F cg_N (j := 25) (by decide) rfl fl_N_76 d_N_laysMay_124 <| r_iload_n F d_N_laysMay_127 rfl <| r_iaload F d_N_laysMay_128 <| r_iconst F d_N_laysMay_129 (by decide) <| r_icmp_ne F d_N_laysMay_130 (by decide) (o_N_laysMay_199 h0 F hr hlk hI) (o_N_laysMay_133 h0 F hr hlk hI)
theorem o_N_laysMay_115 {X : ra_X} {p : Program} {l : Launch} {e : Env} {s : State} {m : MethodId} {args : Array Value} {below : List Frame} {meth : Method} {c : Code} {Z : ra_R} {c0 : ra_Sp}  (h0 : ra_MOK l X mi_N_reads c0) (F : ra_Fx X p rm_N_laysMay s m args c prog_13_method_51_code 5 cn_N) (hr : meth.sig.returnType = none) (hlk : meth.locks = false) {I : Nat → ra_K} (hI : ∀ t ∈ [6, 36, 115], ra_At X p l e rm_N_laysMay s m args below meth c 5 (MQ below (ra_Qc X Z) args s 0 0 (ra_A X)) (I t) t) : ra_At X p l e rm_N_laysMay s m args below meth c 5 (MQ below (ra_Qc X Z) args s 0 0 (ra_A X)) (b_N_laysMay_115 c0 I Z) 115 :=
  r_iload_n F d_N_laysMay_115 rfl <| r_aload_n F d_N_laysMay_116 rfl <| r_getI F cg_N (j := 2) (by decide) rfl fl_N_109 d_N_laysMay_117 <| r_icmp_ge F d_N_laysMay_120 (by decide) (o_N_laysMay_199 h0 F hr hlk hI) (o_N_laysMay_123 h0 F hr hlk hI)
theorem o_N_laysMay_113 {X : ra_X} {p : Program} {l : Launch} {e : Env} {s : State} {m : MethodId} {args : Array Value} {below : List Frame} {meth : Method} {c : Code} {Z : ra_R} {c0 : ra_Sp}  (h0 : ra_MOK l X mi_N_reads c0) (F : ra_Fx X p rm_N_laysMay s m args c prog_13_method_51_code 5 cn_N) (hr : meth.sig.returnType = none) (hlk : meth.locks = false) {I : Nat → ra_K} (hI : ∀ t ∈ [6, 36, 115], ra_At X p l e rm_N_laysMay s m args below meth c 5 (MQ below (ra_Qc X Z) args s 0 0 (ra_A X)) (I t) t) : ra_At X p l e rm_N_laysMay s m args below meth c 5 (MQ below (ra_Qc X Z) args s 0 0 (ra_A X)) (b_N_laysMay_113 c0 I Z) 113 :=
  r_iconst F d_N_laysMay_113 (by decide) <| r_istore_n F d_N_laysMay_114 rfl (by decide) <| (hI 115 (by decide))
theorem o_N_laysMay_89 {X : ra_X} {p : Program} {l : Launch} {e : Env} {s : State} {m : MethodId} {args : Array Value} {below : List Frame} {meth : Method} {c : Code} {Z : ra_R} {c0 : ra_Sp}  (h0 : ra_MOK l X mi_N_reads c0) (F : ra_Fx X p rm_N_laysMay s m args c prog_13_method_51_code 5 cn_N) (hr : meth.sig.returnType = none) (hlk : meth.locks = false) {I : Nat → ra_K} (hI : ∀ t ∈ [6, 36, 115], ra_At X p l e rm_N_laysMay s m args below meth c 5 (MQ below (ra_Qc X Z) args s 0 0 (ra_A X)) (I t) t) : ra_At X p l e rm_N_laysMay s m args below meth c 5 (MQ below (ra_Qc X Z) args s 0 0 (ra_A X)) (b_N_laysMay_89 c0 I Z) 89 :=
  r_aload_n F d_N_laysMay_89 rfl <| r_getR F cg_N (j := 26) (by decide) rfl fl_N_79 d_N_laysMay_90 <| r_aload_n F d_N_laysMay_93 rfl <| r_getR F cg_N (j := 23) (by decide) rfl fl_N_70 d_N_laysMay_94 <| r_iload_n F d_N_laysMay_97 rfl <| r_iaload F d_N_laysMay_98 <| r_dup2 F d_N_laysMay_99 <| r_iaload F d_N_laysMay_100 <| r_iconst F d_N_laysMay_101 (by decide) <| r_aload_n F d_N_laysMay_102 rfl <| r_getR F cg_N (j := 24) (by decide) rfl fl_N_73 d_N_laysMay_103 <| r_iload_n F d_N_laysMay_106 rfl <| r_iaload F d_N_laysMay_107 <| r_ishl F d_N_laysMay_108 <| r_iconst F d_N_laysMay_109 (by decide) <| r_ixor F d_N_laysMay_110 <| r_iand F d_N_laysMay_111 <| r_iastore F d_N_laysMay_112 <| (o_N_laysMay_113 h0 F hr hlk hI)
theorem o_N_laysMay_80 {X : ra_X} {p : Program} {l : Launch} {e : Env} {s : State} {m : MethodId} {args : Array Value} {below : List Frame} {meth : Method} {c : Code} {Z : ra_R} {c0 : ra_Sp}  (h0 : ra_MOK l X mi_N_reads c0) (F : ra_Fx X p rm_N_laysMay s m args c prog_13_method_51_code 5 cn_N) (hr : meth.sig.returnType = none) (hlk : meth.locks = false) {I : Nat → ra_K} (hI : ∀ t ∈ [6, 36, 115], ra_At X p l e rm_N_laysMay s m args below meth c 5 (MQ below (ra_Qc X Z) args s 0 0 (ra_A X)) (I t) t) : ra_At X p l e rm_N_laysMay s m args below meth c 5 (MQ below (ra_Qc X Z) args s 0 0 (ra_A X)) (b_N_laysMay_80 c0 I Z) 80 :=
  r_aload_n F d_N_laysMay_80 rfl <| r_getR F cg_N (j := 25) (by decide) rfl fl_N_76 d_N_laysMay_81 <| r_iload_n F d_N_laysMay_84 rfl <| r_iaload F d_N_laysMay_85 <| r_if_ne F d_N_laysMay_86 (by decide) (o_N_laysMay_113 h0 F hr hlk hI) (o_N_laysMay_89 h0 F hr hlk hI)
theorem o_N_laysMay_75 {X : ra_X} {p : Program} {l : Launch} {e : Env} {s : State} {m : MethodId} {args : Array Value} {below : List Frame} {meth : Method} {c : Code} {Z : ra_R} {c0 : ra_Sp}  (h0 : ra_MOK l X mi_N_reads c0) (F : ra_Fx X p rm_N_laysMay s m args c prog_13_method_51_code 5 cn_N) (hr : meth.sig.returnType = none) (hlk : meth.locks = false) {I : Nat → ra_K} (hI : ∀ t ∈ [6, 36, 115], ra_At X p l e rm_N_laysMay s m args below meth c 5 (MQ below (ra_Qc X Z) args s 0 0 (ra_A X)) (I t) t) : ra_At X p l e rm_N_laysMay s m args below meth c 5 (MQ below (ra_Qc X Z) args s 0 0 (ra_A X)) (b_N_laysMay_75 c0 I Z) 75 :=
  r_istore_n F d_N_laysMay_75 rfl (by decide) <| r_iload_n F d_N_laysMay_76 rfl <| r_if_eq F d_N_laysMay_77 (by decide) (o_N_laysMay_113 h0 F hr hlk hI) (o_N_laysMay_80 h0 F hr hlk hI)
theorem o_N_laysMay_74 {X : ra_X} {p : Program} {l : Launch} {e : Env} {s : State} {m : MethodId} {args : Array Value} {below : List Frame} {meth : Method} {c : Code} {Z : ra_R} {c0 : ra_Sp}  (h0 : ra_MOK l X mi_N_reads c0) (F : ra_Fx X p rm_N_laysMay s m args c prog_13_method_51_code 5 cn_N) (hr : meth.sig.returnType = none) (hlk : meth.locks = false) {I : Nat → ra_K} (hI : ∀ t ∈ [6, 36, 115], ra_At X p l e rm_N_laysMay s m args below meth c 5 (MQ below (ra_Qc X Z) args s 0 0 (ra_A X)) (I t) t) : ra_At X p l e rm_N_laysMay s m args below meth c 5 (MQ below (ra_Qc X Z) args s 0 0 (ra_A X)) (b_N_laysMay_74 c0 I Z) 74 :=
  r_iconst F d_N_laysMay_74 (by decide) <| (o_N_laysMay_75 h0 F hr hlk hI)
theorem o_N_laysMay_70 {X : ra_X} {p : Program} {l : Launch} {e : Env} {s : State} {m : MethodId} {args : Array Value} {below : List Frame} {meth : Method} {c : Code} {Z : ra_R} {c0 : ra_Sp}  (h0 : ra_MOK l X mi_N_reads c0) (F : ra_Fx X p rm_N_laysMay s m args c prog_13_method_51_code 5 cn_N) (hr : meth.sig.returnType = none) (hlk : meth.locks = false) {I : Nat → ra_K} (hI : ∀ t ∈ [6, 36, 115], ra_At X p l e rm_N_laysMay s m args below meth c 5 (MQ below (ra_Qc X Z) args s 0 0 (ra_A X)) (I t) t) : ra_At X p l e rm_N_laysMay s m args below meth c 5 (MQ below (ra_Qc X Z) args s 0 0 (ra_A X)) (b_N_laysMay_70 c0 I Z) 70 :=
  r_iconst F d_N_laysMay_70 (by decide) <| r_goto F d_N_laysMay_71 (by decide) (o_N_laysMay_75 h0 F hr hlk hI)
theorem o_N_laysMay_57 {X : ra_X} {p : Program} {l : Launch} {e : Env} {s : State} {m : MethodId} {args : Array Value} {below : List Frame} {meth : Method} {c : Code} {Z : ra_R} {c0 : ra_Sp}  (h0 : ra_MOK l X mi_N_reads c0) (F : ra_Fx X p rm_N_laysMay s m args c prog_13_method_51_code 5 cn_N) (hr : meth.sig.returnType = none) (hlk : meth.locks = false) {I : Nat → ra_K} (hI : ∀ t ∈ [6, 36, 115], ra_At X p l e rm_N_laysMay s m args below meth c 5 (MQ below (ra_Qc X Z) args s 0 0 (ra_A X)) (I t) t) : ra_At X p l e rm_N_laysMay s m args below meth c 5 (MQ below (ra_Qc X Z) args s 0 0 (ra_A X)) (b_N_laysMay_57 c0 I Z) 57 :=
  r_aload_n F d_N_laysMay_57 rfl <| r_getR F cg_N (j := 24) (by decide) rfl fl_N_73 d_N_laysMay_58 <| r_iload_n F d_N_laysMay_61 rfl <| r_iaload F d_N_laysMay_62 <| r_aload_n F d_N_laysMay_63 rfl <| r_getI F cg_N (j := 2) (by decide) rfl fl_N_109 d_N_laysMay_64 <| r_icmp_ge F d_N_laysMay_67 (by decide) (o_N_laysMay_74 h0 F hr hlk hI) (o_N_laysMay_70 h0 F hr hlk hI)
theorem o_N_laysMay_44 {X : ra_X} {p : Program} {l : Launch} {e : Env} {s : State} {m : MethodId} {args : Array Value} {below : List Frame} {meth : Method} {c : Code} {Z : ra_R} {c0 : ra_Sp}  (h0 : ra_MOK l X mi_N_reads c0) (F : ra_Fx X p rm_N_laysMay s m args c prog_13_method_51_code 5 cn_N) (hr : meth.sig.returnType = none) (hlk : meth.locks = false) {I : Nat → ra_K} (hI : ∀ t ∈ [6, 36, 115], ra_At X p l e rm_N_laysMay s m args below meth c 5 (MQ below (ra_Qc X Z) args s 0 0 (ra_A X)) (I t) t) : ra_At X p l e rm_N_laysMay s m args below meth c 5 (MQ below (ra_Qc X Z) args s 0 0 (ra_A X)) (b_N_laysMay_44 c0 I Z) 44 :=
  r_aload_n F d_N_laysMay_44 rfl <| r_getR F cg_N (j := 23) (by decide) rfl fl_N_70 d_N_laysMay_45 <| r_iload_n F d_N_laysMay_48 rfl <| r_iaload F d_N_laysMay_49 <| r_aload_n F d_N_laysMay_50 rfl <| r_getI F cg_N (j := 2) (by decide) rfl fl_N_109 d_N_laysMay_51 <| r_icmp_ge F d_N_laysMay_54 (by decide) (o_N_laysMay_74 h0 F hr hlk hI) (o_N_laysMay_57 h0 F hr hlk hI)
theorem o_N_laysMay_36 {X : ra_X} {p : Program} {l : Launch} {e : Env} {s : State} {m : MethodId} {args : Array Value} {below : List Frame} {meth : Method} {c : Code} {Z : ra_R} {c0 : ra_Sp}  (h0 : ra_MOK l X mi_N_reads c0) (F : ra_Fx X p rm_N_laysMay s m args c prog_13_method_51_code 5 cn_N) (hr : meth.sig.returnType = none) (hlk : meth.locks = false) {I : Nat → ra_K} (hI : ∀ t ∈ [6, 36, 115], ra_At X p l e rm_N_laysMay s m args below meth c 5 (MQ below (ra_Qc X Z) args s 0 0 (ra_A X)) (I t) t) : ra_At X p l e rm_N_laysMay s m args below meth c 5 (MQ below (ra_Qc X Z) args s 0 0 (ra_A X)) (b_N_laysMay_36 c0 I Z) 36 :=
  r_iload_n F d_N_laysMay_36 rfl <| r_aload_n F d_N_laysMay_37 rfl <| r_getI F cg_N (j := 22) (by decide) rfl fl_N_203 d_N_laysMay_38 <| r_icmp_ge F d_N_laysMay_41 (by decide) (o_N_laysMay_205 h0 F hr hlk hI) (o_N_laysMay_44 h0 F hr hlk hI)
theorem o_N_laysMay_34 {X : ra_X} {p : Program} {l : Launch} {e : Env} {s : State} {m : MethodId} {args : Array Value} {below : List Frame} {meth : Method} {c : Code} {Z : ra_R} {c0 : ra_Sp}  (h0 : ra_MOK l X mi_N_reads c0) (F : ra_Fx X p rm_N_laysMay s m args c prog_13_method_51_code 5 cn_N) (hr : meth.sig.returnType = none) (hlk : meth.locks = false) {I : Nat → ra_K} (hI : ∀ t ∈ [6, 36, 115], ra_At X p l e rm_N_laysMay s m args below meth c 5 (MQ below (ra_Qc X Z) args s 0 0 (ra_A X)) (I t) t) : ra_At X p l e rm_N_laysMay s m args below meth c 5 (MQ below (ra_Qc X Z) args s 0 0 (ra_A X)) (b_N_laysMay_34 c0 I Z) 34 :=
  r_iconst F d_N_laysMay_34 (by decide) <| r_istore_n F d_N_laysMay_35 rfl (by decide) <| (hI 36 (by decide))
theorem o_N_laysMay_14 {X : ra_X} {p : Program} {l : Launch} {e : Env} {s : State} {m : MethodId} {args : Array Value} {below : List Frame} {meth : Method} {c : Code} {Z : ra_R} {c0 : ra_Sp}  (h0 : ra_MOK l X mi_N_reads c0) (F : ra_Fx X p rm_N_laysMay s m args c prog_13_method_51_code 5 cn_N) (hr : meth.sig.returnType = none) (hlk : meth.locks = false) {I : Nat → ra_K} (hI : ∀ t ∈ [6, 36, 115], ra_At X p l e rm_N_laysMay s m args below meth c 5 (MQ below (ra_Qc X Z) args s 0 0 (ra_A X)) (I t) t) : ra_At X p l e rm_N_laysMay s m args below meth c 5 (MQ below (ra_Qc X Z) args s 0 0 (ra_A X)) (b_N_laysMay_14 c0 I Z) 14 :=
  r_aload_n F d_N_laysMay_14 rfl <| r_getR F cg_N (j := 26) (by decide) rfl fl_N_79 d_N_laysMay_15 <| r_iload_n F d_N_laysMay_18 rfl <| r_iconst F d_N_laysMay_19 (by decide) <| r_aload_n F d_N_laysMay_20 rfl <| r_getI F cg_N (j := 2) (by decide) rfl fl_N_109 d_N_laysMay_21 <| r_ishl F d_N_laysMay_24 <| r_iconst F d_N_laysMay_25 (by decide) <| r_isub F d_N_laysMay_26 <| r_iastore F d_N_laysMay_27 <| r_iinc F d_N_laysMay_28 (by decide) (by decide) <| r_goto F d_N_laysMay_31 (by decide) (hI 6 (by decide))
theorem o_N_laysMay_6 {X : ra_X} {p : Program} {l : Launch} {e : Env} {s : State} {m : MethodId} {args : Array Value} {below : List Frame} {meth : Method} {c : Code} {Z : ra_R} {c0 : ra_Sp}  (h0 : ra_MOK l X mi_N_reads c0) (F : ra_Fx X p rm_N_laysMay s m args c prog_13_method_51_code 5 cn_N) (hr : meth.sig.returnType = none) (hlk : meth.locks = false) {I : Nat → ra_K} (hI : ∀ t ∈ [6, 36, 115], ra_At X p l e rm_N_laysMay s m args below meth c 5 (MQ below (ra_Qc X Z) args s 0 0 (ra_A X)) (I t) t) : ra_At X p l e rm_N_laysMay s m args below meth c 5 (MQ below (ra_Qc X Z) args s 0 0 (ra_A X)) (b_N_laysMay_6 c0 I Z) 6 :=
  r_iload_n F d_N_laysMay_6 rfl <| r_aload_n F d_N_laysMay_7 rfl <| r_getI F cg_N (j := 2) (by decide) rfl fl_N_109 d_N_laysMay_8 <| r_icmp_ge F d_N_laysMay_11 (by decide) (o_N_laysMay_34 h0 F hr hlk hI) (o_N_laysMay_14 h0 F hr hlk hI)
theorem o_N_laysMay_0 {X : ra_X} {p : Program} {l : Launch} {e : Env} {s : State} {m : MethodId} {args : Array Value} {below : List Frame} {meth : Method} {c : Code} {Z : ra_R} {c0 : ra_Sp}  (h0 : ra_MOK l X mi_N_reads c0) (F : ra_Fx X p rm_N_laysMay s m args c prog_13_method_51_code 5 cn_N) (hr : meth.sig.returnType = none) (hlk : meth.locks = false) {I : Nat → ra_K} (hI : ∀ t ∈ [6, 36, 115], ra_At X p l e rm_N_laysMay s m args below meth c 5 (MQ below (ra_Qc X Z) args s 0 0 (ra_A X)) (I t) t) : ra_At X p l e rm_N_laysMay s m args below meth c 5 (MQ below (ra_Qc X Z) args s 0 0 (ra_A X)) (b_N_laysMay_0 c0 I Z) 0 :=
  r_aload_n F d_N_laysMay_0 rfl <| r_callV F h0 (co_N_reads (by decide +kernel) (by decide +kernel)) ⟨rfl, by decide +kernel⟩ ⟨rfl, by decide⟩ ml_N_134 im_N_reads se_N_reads d_N_laysMay_1 <| r_iconst F d_N_laysMay_4 (by decide) <| r_istore_n F d_N_laysMay_5 rfl (by decide) <| (hI 6 (by decide))
theorem g_N_laysMay {l : Launch} {X : ra_X} {c0 : ra_Sp}  (h0 : ra_MOK l X mi_N_reads c0) (sp : ra_Sp) (I : ra_R → List Value → ra_St → Nat → ra_M → ra_K) (ve : ∀ as σ Z, ra_c1 as = true → as.length = 1 → sp as σ Z → b_N_laysMay_0 c0 (ra_I (I Z as σ)) Z (ra_pad 5 as) [] σ) (v6 : ∀ as σ Z, sp as σ Z → ∀ μ L S σ1, I Z as σ 6 μ L S σ1 → b_N_laysMay_6 c0 (ra_J (I Z as σ) μ) Z L S σ1) (v36 : ∀ as σ Z, sp as σ Z → ∀ μ L S σ1, I Z as σ 36 μ L S σ1 → b_N_laysMay_36 c0 (ra_J (I Z as σ) μ) Z L S σ1) (v115 : ∀ as σ Z, sp as σ Z → ∀ μ L S σ1, I Z as σ 115 μ L S σ1 → b_N_laysMay_115 c0 (ra_J (I Z as σ) μ) Z L S σ1) : ra_MOK l X mi_N_laysMay sp := by
  refine ra_enter (k := fun Z as σ => b_N_laysMay_0 c0 (ra_I (I Z as σ)) Z) cn_N rfl (by decide +kernel) ⟨by decide +kernel, by decide +kernel⟩ (by decide +kernel) ?_ ve
  intro p e s m args below meth c Z as σ hsp F hr hlk
  refine o_N_laysMay_0 h0 F hr hlk (ra_cuts (b := fun t J => if t = 6 then b_N_laysMay_6 c0 J Z else if t = 36 then b_N_laysMay_36 c0 J Z else if t = 115 then b_N_laysMay_115 c0 J Z else fun _ _ _ => False) ?_ ?_)
  · intro t ht J hJ
    simp only [List.mem_cons, List.not_mem_nil, or_false] at ht
    rcases ht with rfl | rfl | rfl
    · exact o_N_laysMay_6 h0 F hr hlk hJ
    · exact o_N_laysMay_36 h0 F hr hlk hJ
    · exact o_N_laysMay_115 h0 F hr hlk hJ
  · intro t ht μ L S σ1 hI
    simp only [List.mem_cons, List.not_mem_nil, or_false] at ht
    rcases ht with rfl | rfl | rfl
    · exact v6 as σ Z hsp μ L S σ1 hI
    · exact v36 as σ Z hsp μ L S σ1 hI
    · exact v115 as σ Z hsp μ L S σ1 hI

theorem d_N_waysBy_0 : decode prog_13_method_52_code 0 = .ok (.iconst 1, 1) := by decide +kernel
theorem d_N_waysBy_1 : decode prog_13_method_52_code 1 = .ok (.aload_n 0, 1) := by decide +kernel
theorem d_N_waysBy_2 : decode prog_13_method_52_code 2 = .ok (.getfield 109, 3) := by decide +kernel
theorem d_N_waysBy_5 : decode prog_13_method_52_code 5 = .ok (.ishl, 1) := by decide +kernel
theorem d_N_waysBy_6 : decode prog_13_method_52_code 6 = .ok (.iconst 1, 1) := by decide +kernel
theorem d_N_waysBy_7 : decode prog_13_method_52_code 7 = .ok (.isub, 1) := by decide +kernel
theorem d_N_waysBy_8 : decode prog_13_method_52_code 8 = .ok (.istore_n 3, 1) := by decide +kernel
theorem d_N_waysBy_9 : decode prog_13_method_52_code 9 = .ok (.iconst 0, 1) := by decide +kernel
theorem d_N_waysBy_10 : decode prog_13_method_52_code 10 = .ok (.istore 4, 2) := by decide +kernel
theorem d_N_waysBy_12 : decode prog_13_method_52_code 12 = .ok (.iload 4, 2) := by decide +kernel
theorem d_N_waysBy_14 : decode prog_13_method_52_code 14 = .ok (.iload_n 3, 1) := by decide +kernel
theorem d_N_waysBy_15 : decode prog_13_method_52_code 15 = .ok (.if_icmp .gt 26, 3) := by decide +kernel
theorem d_N_waysBy_18 : decode prog_13_method_52_code 18 = .ok (.aload_n 0, 1) := by decide +kernel
theorem d_N_waysBy_19 : decode prog_13_method_52_code 19 = .ok (.getfield 82, 3) := by decide +kernel
theorem d_N_waysBy_22 : decode prog_13_method_52_code 22 = .ok (.iload 4, 2) := by decide +kernel
theorem d_N_waysBy_24 : decode prog_13_method_52_code 24 = .ok (.iload 4, 2) := by decide +kernel
theorem d_N_waysBy_26 : decode prog_13_method_52_code 26 = .ok (.ifCond .ne 7, 3) := by decide +kernel
theorem d_N_waysBy_29 : decode prog_13_method_52_code 29 = .ok (.iconst 1, 1) := by decide +kernel
theorem d_N_waysBy_30 : decode prog_13_method_52_code 30 = .ok (.goto 4, 3) := by decide +kernel
theorem d_N_waysBy_33 : decode prog_13_method_52_code 33 = .ok (.iconst 0, 1) := by decide +kernel
theorem d_N_waysBy_34 : decode prog_13_method_52_code 34 = .ok (.iastore, 1) := by decide +kernel
theorem d_N_waysBy_35 : decode prog_13_method_52_code 35 = .ok (.iinc 4 1, 3) := by decide +kernel
theorem d_N_waysBy_38 : decode prog_13_method_52_code 38 = .ok (.goto (-26), 3) := by decide +kernel
theorem d_N_waysBy_41 : decode prog_13_method_52_code 41 = .ok (.iconst 0, 1) := by decide +kernel
theorem d_N_waysBy_42 : decode prog_13_method_52_code 42 = .ok (.istore 4, 2) := by decide +kernel
theorem d_N_waysBy_44 : decode prog_13_method_52_code 44 = .ok (.iload 4, 2) := by decide +kernel
theorem d_N_waysBy_46 : decode prog_13_method_52_code 46 = .ok (.iload_n 3, 1) := by decide +kernel
theorem d_N_waysBy_47 : decode prog_13_method_52_code 47 = .ok (.if_icmp .gt 118, 3) := by decide +kernel
theorem d_N_waysBy_50 : decode prog_13_method_52_code 50 = .ok (.iload 4, 2) := by decide +kernel
theorem d_N_waysBy_52 : decode prog_13_method_52_code 52 = .ok (.invokestatic 182, 3) := by decide +kernel
theorem d_N_waysBy_55 : decode prog_13_method_52_code 55 = .ok (.istore 5, 2) := by decide +kernel
theorem d_N_waysBy_57 : decode prog_13_method_52_code 57 = .ok (.iconst 0, 1) := by decide +kernel
theorem d_N_waysBy_58 : decode prog_13_method_52_code 58 = .ok (.istore 6, 2) := by decide +kernel
theorem d_N_waysBy_60 : decode prog_13_method_52_code 60 = .ok (.iload 6, 2) := by decide +kernel
theorem d_N_waysBy_62 : decode prog_13_method_52_code 62 = .ok (.aload_n 0, 1) := by decide +kernel
theorem d_N_waysBy_63 : decode prog_13_method_52_code 63 = .ok (.getfield 109, 3) := by decide +kernel
theorem d_N_waysBy_66 : decode prog_13_method_52_code 66 = .ok (.if_icmp .ge 93, 3) := by decide +kernel
theorem d_N_waysBy_69 : decode prog_13_method_52_code 69 = .ok (.iload 5, 2) := by decide +kernel
theorem d_N_waysBy_71 : decode prog_13_method_52_code 71 = .ok (.aload_n 0, 1) := by decide +kernel
theorem d_N_waysBy_72 : decode prog_13_method_52_code 72 = .ok (.getfield 109, 3) := by decide +kernel
theorem d_N_waysBy_75 : decode prog_13_method_52_code 75 = .ok (.if_icmp .ge 84, 3) := by decide +kernel
theorem d_N_waysBy_78 : decode prog_13_method_52_code 78 = .ok (.aload_n 0, 1) := by decide +kernel
theorem d_N_waysBy_79 : decode prog_13_method_52_code 79 = .ok (.getfield 79, 3) := by decide +kernel
theorem d_N_waysBy_82 : decode prog_13_method_52_code 82 = .ok (.iload 5, 2) := by decide +kernel
theorem d_N_waysBy_84 : decode prog_13_method_52_code 84 = .ok (.iaload, 1) := by decide +kernel
theorem d_N_waysBy_85 : decode prog_13_method_52_code 85 = .ok (.iload 6, 2) := by decide +kernel
theorem d_N_waysBy_87 : decode prog_13_method_52_code 87 = .ok (.invokestatic 116, 3) := by decide +kernel
theorem d_N_waysBy_90 : decode prog_13_method_52_code 90 = .ok (.ifCond .eq 29, 3) := by decide +kernel
theorem d_N_waysBy_93 : decode prog_13_method_52_code 93 = .ok (.iload 4, 2) := by decide +kernel
theorem d_N_waysBy_95 : decode prog_13_method_52_code 95 = .ok (.iload 6, 2) := by decide +kernel
theorem d_N_waysBy_97 : decode prog_13_method_52_code 97 = .ok (.invokestatic 116, 3) := by decide +kernel
theorem d_N_waysBy_100 : decode prog_13_method_52_code 100 = .ok (.ifCond .ne 19, 3) := by decide +kernel
theorem d_N_waysBy_103 : decode prog_13_method_52_code 103 = .ok (.iload 5, 2) := by decide +kernel
theorem d_N_waysBy_105 : decode prog_13_method_52_code 105 = .ok (.iload_n 1, 1) := by decide +kernel
theorem d_N_waysBy_106 : decode prog_13_method_52_code 106 = .ok (.if_icmp .ne 9, 3) := by decide +kernel
theorem d_N_waysBy_109 : decode prog_13_method_52_code 109 = .ok (.iload 6, 2) := by decide +kernel
theorem d_N_waysBy_111 : decode prog_13_method_52_code 111 = .ok (.iload_n 2, 1) := by decide +kernel
theorem d_N_waysBy_112 : decode prog_13_method_52_code 112 = .ok (.if_icmp .ne 7, 3) := by decide +kernel
theorem d_N_waysBy_115 : decode prog_13_method_52_code 115 = .ok (.iconst 1, 1) := by decide +kernel
theorem d_N_waysBy_116 : decode prog_13_method_52_code 116 = .ok (.goto 4, 3) := by decide +kernel
theorem d_N_waysBy_119 : decode prog_13_method_52_code 119 = .ok (.iconst 0, 1) := by decide +kernel
theorem d_N_waysBy_120 : decode prog_13_method_52_code 120 = .ok (.istore 7, 2) := by decide +kernel
theorem d_N_waysBy_122 : decode prog_13_method_52_code 122 = .ok (.aload_n 0, 1) := by decide +kernel
theorem d_N_waysBy_123 : decode prog_13_method_52_code 123 = .ok (.getfield 82, 3) := by decide +kernel
theorem d_N_waysBy_126 : decode prog_13_method_52_code 126 = .ok (.iload 4, 2) := by decide +kernel
theorem d_N_waysBy_128 : decode prog_13_method_52_code 128 = .ok (.iconst 1, 1) := by decide +kernel
theorem d_N_waysBy_129 : decode prog_13_method_52_code 129 = .ok (.iload 6, 2) := by decide +kernel
theorem d_N_waysBy_131 : decode prog_13_method_52_code 131 = .ok (.ishl, 1) := by decide +kernel
theorem d_N_waysBy_132 : decode prog_13_method_52_code 132 = .ok (.ior, 1) := by decide +kernel
theorem d_N_waysBy_133 : decode prog_13_method_52_code 133 = .ok (.dup2, 1) := by decide +kernel
theorem d_N_waysBy_134 : decode prog_13_method_52_code 134 = .ok (.iaload, 1) := by decide +kernel
theorem d_N_waysBy_135 : decode prog_13_method_52_code 135 = .ok (.iload 7, 2) := by decide +kernel
theorem d_N_waysBy_137 : decode prog_13_method_52_code 137 = .ok (.ifCond .eq 13, 3) := by decide +kernel
theorem d_N_waysBy_140 : decode prog_13_method_52_code 140 = .ok (.aload_n 0, 1) := by decide +kernel
theorem d_N_waysBy_141 : decode prog_13_method_52_code 141 = .ok (.getfield 82, 3) := by decide +kernel
theorem d_N_waysBy_144 : decode prog_13_method_52_code 144 = .ok (.iload 4, 2) := by decide +kernel
theorem d_N_waysBy_146 : decode prog_13_method_52_code 146 = .ok (.iaload, 1) := by decide +kernel
theorem d_N_waysBy_147 : decode prog_13_method_52_code 147 = .ok (.goto 4, 3) := by decide +kernel
theorem d_N_waysBy_150 : decode prog_13_method_52_code 150 = .ok (.iconst 0, 1) := by decide +kernel
theorem d_N_waysBy_151 : decode prog_13_method_52_code 151 = .ok (.iadd, 1) := by decide +kernel
theorem d_N_waysBy_152 : decode prog_13_method_52_code 152 = .ok (.iastore, 1) := by decide +kernel
theorem d_N_waysBy_153 : decode prog_13_method_52_code 153 = .ok (.iinc 6 1, 3) := by decide +kernel
theorem d_N_waysBy_156 : decode prog_13_method_52_code 156 = .ok (.goto (-96), 3) := by decide +kernel
theorem d_N_waysBy_159 : decode prog_13_method_52_code 159 = .ok (.iinc 4 1, 3) := by decide +kernel
theorem d_N_waysBy_162 : decode prog_13_method_52_code 162 = .ok (.goto (-118), 3) := by decide +kernel
theorem d_N_waysBy_165 : decode prog_13_method_52_code 165 = .ok (.aload_n 0, 1) := by decide +kernel
theorem d_N_waysBy_166 : decode prog_13_method_52_code 166 = .ok (.getfield 82, 3) := by decide +kernel
theorem d_N_waysBy_169 : decode prog_13_method_52_code 169 = .ok (.iload_n 3, 1) := by decide +kernel
theorem d_N_waysBy_170 : decode prog_13_method_52_code 170 = .ok (.iaload, 1) := by decide +kernel
theorem d_N_waysBy_171 : decode prog_13_method_52_code 171 = .ok (.ireturn, 1) := by decide +kernel
def b_N_waysBy_165 (c0 c1 : ra_Sp) (I : Nat → ra_K) (Z : ra_R) : ra_K := w_al 0 <| w_gr 11 27 <| w_il 3 <| w_ald <| w_ir Z
def b_N_waysBy_159 (c0 c1 : ra_Sp) (I : Nat → ra_K) (Z : ra_R) : ra_K := w_inc 4 1 <| (I 44)
def b_N_waysBy_151 (c0 c1 : ra_Sp) (I : Nat → ra_K) (Z : ra_R) : ra_K := w_i2 (fun x y => x + y) <| w_ast <| w_inc 6 1 <| (I 60)
def b_N_waysBy_150 (c0 c1 : ra_Sp) (I : Nat → ra_K) (Z : ra_R) : ra_K := w_c 0 <| (b_N_waysBy_151 c0 c1 I Z)
def b_N_waysBy_140 (c0 c1 : ra_Sp) (I : Nat → ra_K) (Z : ra_R) : ra_K := w_al 0 <| w_gr 11 27 <| w_il 4 <| w_ald <| (b_N_waysBy_151 c0 c1 I Z)
def b_N_waysBy_120 (c0 c1 : ra_Sp) (I : Nat → ra_K) (Z : ra_R) : ra_K := w_is 7 <| w_al 0 <| w_gr 11 27 <| w_il 4 <| w_c 1 <| w_il 6 <| w_i2 (fun x y => x <<< (y &&& 31)) <| w_i2 (fun x y => x ||| y) <| w_dup2 <| w_ald <| w_il 7 <| w_b1 (fun x => x = 0) (b_N_waysBy_150 c0 c1 I Z) (b_N_waysBy_140 c0 c1 I Z)
def b_N_waysBy_119 (c0 c1 : ra_Sp) (I : Nat → ra_K) (Z : ra_R) : ra_K := w_c 0 <| (b_N_waysBy_120 c0 c1 I Z)
def b_N_waysBy_115 (c0 c1 : ra_Sp) (I : Nat → ra_K) (Z : ra_R) : ra_K := w_c 1 <| (b_N_waysBy_120 c0 c1 I Z)
def b_N_waysBy_109 (c0 c1 : ra_Sp) (I : Nat → ra_K) (Z : ra_R) : ra_K := w_il 6 <| w_il 2 <| w_b2 (fun x y => x = y) (b_N_waysBy_115 c0 c1 I Z) (b_N_waysBy_119 c0 c1 I Z)
def b_N_waysBy_103 (c0 c1 : ra_Sp) (I : Nat → ra_K) (Z : ra_R) : ra_K := w_il 5 <| w_il 1 <| w_b2 (fun x y => x = y) (b_N_waysBy_109 c0 c1 I Z) (b_N_waysBy_115 c0 c1 I Z)
def b_N_waysBy_93 (c0 c1 : ra_Sp) (I : Nat → ra_K) (Z : ra_R) : ra_K := w_il 4 <| w_il 6 <| w_cs c1 2 <| w_b1 (fun x => x = 0) (b_N_waysBy_103 c0 c1 I Z) (b_N_waysBy_119 c0 c1 I Z)
def b_N_waysBy_78 (c0 c1 : ra_Sp) (I : Nat → ra_K) (Z : ra_R) : ra_K := w_al 0 <| w_gr 11 26 <| w_il 5 <| w_ald <| w_il 6 <| w_cs c1 2 <| w_b1 (fun x => x = 0) (b_N_waysBy_119 c0 c1 I Z) (b_N_waysBy_93 c0 c1 I Z)
def b_N_waysBy_69 (c0 c1 : ra_Sp) (I : Nat → ra_K) (Z : ra_R) : ra_K := w_il 5 <| w_al 0 <| w_gi 11 2 <| w_b2 (fun x y => y ≤ x) (b_N_waysBy_159 c0 c1 I Z) (b_N_waysBy_78 c0 c1 I Z)
def b_N_waysBy_60 (c0 c1 : ra_Sp) (I : Nat → ra_K) (Z : ra_R) : ra_K := w_il 6 <| w_al 0 <| w_gi 11 2 <| w_b2 (fun x y => y ≤ x) (b_N_waysBy_159 c0 c1 I Z) (b_N_waysBy_69 c0 c1 I Z)
def b_N_waysBy_50 (c0 c1 : ra_Sp) (I : Nat → ra_K) (Z : ra_R) : ra_K := w_il 4 <| w_cs c0 1 <| w_is 5 <| w_c 0 <| w_is 6 <| (I 60)
def b_N_waysBy_44 (c0 c1 : ra_Sp) (I : Nat → ra_K) (Z : ra_R) : ra_K := w_il 4 <| w_il 3 <| w_b2 (fun x y => y < x) (b_N_waysBy_165 c0 c1 I Z) (b_N_waysBy_50 c0 c1 I Z)
def b_N_waysBy_41 (c0 c1 : ra_Sp) (I : Nat → ra_K) (Z : ra_R) : ra_K := w_c 0 <| w_is 4 <| (I 44)
def b_N_waysBy_34 (c0 c1 : ra_Sp) (I : Nat → ra_K) (Z : ra_R) : ra_K := w_ast <| w_inc 4 1 <| (I 12)
def b_N_waysBy_33 (c0 c1 : ra_Sp) (I : Nat → ra_K) (Z : ra_R) : ra_K := w_c 0 <| (b_N_waysBy_34 c0 c1 I Z)
def b_N_waysBy_29 (c0 c1 : ra_Sp) (I : Nat → ra_K) (Z : ra_R) : ra_K := w_c 1 <| (b_N_waysBy_34 c0 c1 I Z)
def b_N_waysBy_18 (c0 c1 : ra_Sp) (I : Nat → ra_K) (Z : ra_R) : ra_K := w_al 0 <| w_gr 11 27 <| w_il 4 <| w_il 4 <| w_b1 (fun x => x = 0) (b_N_waysBy_29 c0 c1 I Z) (b_N_waysBy_33 c0 c1 I Z)
def b_N_waysBy_12 (c0 c1 : ra_Sp) (I : Nat → ra_K) (Z : ra_R) : ra_K := w_il 4 <| w_il 3 <| w_b2 (fun x y => y < x) (b_N_waysBy_41 c0 c1 I Z) (b_N_waysBy_18 c0 c1 I Z)
def b_N_waysBy_0 (c0 c1 : ra_Sp) (I : Nat → ra_K) (Z : ra_R) : ra_K := w_c 1 <| w_al 0 <| w_gi 11 2 <| w_i2 (fun x y => x <<< (y &&& 31)) <| w_c 1 <| w_i2 (fun x y => x - y) <| w_is 3 <| w_c 0 <| w_is 4 <| (I 12)
theorem o_N_waysBy_165 {X : ra_X} {p : Program} {l : Launch} {e : Env} {s : State} {m : MethodId} {args : Array Value} {below : List Frame} {meth : Method} {c : Code} {Z : ra_R} {c0 c1 : ra_Sp}  (h0 : ra_MOK l X mi_N_ones c0) (h1 : ra_MOK l X mi_N_isIn c1) (F : ra_Fx X p rm_N_waysBy s m args c prog_13_method_52_code 8 cn_N) (hr : meth.sig.returnType = (some .int)) (hlk : meth.locks = false) {I : Nat → ra_K} (hI : ∀ t ∈ [12, 44, 60], ra_At X p l e rm_N_waysBy s m args below meth c 8 (MQ below (ra_Qc X Z) args s 0 0 (ra_A X)) (I t) t) : ra_At X p l e rm_N_waysBy s m args below meth c 8 (MQ below (ra_Qc X Z) args s 0 0 (ra_A X)) (b_N_waysBy_165 c0 c1 I Z) 165 :=
  r_aload_n F d_N_waysBy_165 rfl <| r_getR F cg_N (j := 27) (by decide) rfl fl_N_82 d_N_waysBy_166 <| r_iload_n F d_N_waysBy_169 rfl <| r_iaload F d_N_waysBy_170 <| r_ireturn F hr hlk d_N_waysBy_171
theorem o_N_waysBy_159 {X : ra_X} {p : Program} {l : Launch} {e : Env} {s : State} {m : MethodId} {args : Array Value} {below : List Frame} {meth : Method} {c : Code} {Z : ra_R} {c0 c1 : ra_Sp}  (h0 : ra_MOK l X mi_N_ones c0) (h1 : ra_MOK l X mi_N_isIn c1) (F : ra_Fx X p rm_N_waysBy s m args c prog_13_method_52_code 8 cn_N) (hr : meth.sig.returnType = (some .int)) (hlk : meth.locks = false) {I : Nat → ra_K} (hI : ∀ t ∈ [12, 44, 60], ra_At X p l e rm_N_waysBy s m args below meth c 8 (MQ below (ra_Qc X Z) args s 0 0 (ra_A X)) (I t) t) : ra_At X p l e rm_N_waysBy s m args below meth c 8 (MQ below (ra_Qc X Z) args s 0 0 (ra_A X)) (b_N_waysBy_159 c0 c1 I Z) 159 :=
  r_iinc F d_N_waysBy_159 (by decide) (by decide) <| r_goto F d_N_waysBy_162 (by decide) (hI 44 (by decide))
theorem o_N_waysBy_151 {X : ra_X} {p : Program} {l : Launch} {e : Env} {s : State} {m : MethodId} {args : Array Value} {below : List Frame} {meth : Method} {c : Code} {Z : ra_R} {c0 c1 : ra_Sp}  (h0 : ra_MOK l X mi_N_ones c0) (h1 : ra_MOK l X mi_N_isIn c1) (F : ra_Fx X p rm_N_waysBy s m args c prog_13_method_52_code 8 cn_N) (hr : meth.sig.returnType = (some .int)) (hlk : meth.locks = false) {I : Nat → ra_K} (hI : ∀ t ∈ [12, 44, 60], ra_At X p l e rm_N_waysBy s m args below meth c 8 (MQ below (ra_Qc X Z) args s 0 0 (ra_A X)) (I t) t) : ra_At X p l e rm_N_waysBy s m args below meth c 8 (MQ below (ra_Qc X Z) args s 0 0 (ra_A X)) (b_N_waysBy_151 c0 c1 I Z) 151 :=
  r_iadd F d_N_waysBy_151 <| r_iastore F d_N_waysBy_152 <| r_iinc F d_N_waysBy_153 (by decide) (by decide) <| r_goto F d_N_waysBy_156 (by decide) (hI 60 (by decide))
theorem o_N_waysBy_150 {X : ra_X} {p : Program} {l : Launch} {e : Env} {s : State} {m : MethodId} {args : Array Value} {below : List Frame} {meth : Method} {c : Code} {Z : ra_R} {c0 c1 : ra_Sp}  (h0 : ra_MOK l X mi_N_ones c0) (h1 : ra_MOK l X mi_N_isIn c1) (F : ra_Fx X p rm_N_waysBy s m args c prog_13_method_52_code 8 cn_N) (hr : meth.sig.returnType = (some .int)) (hlk : meth.locks = false) {I : Nat → ra_K} (hI : ∀ t ∈ [12, 44, 60], ra_At X p l e rm_N_waysBy s m args below meth c 8 (MQ below (ra_Qc X Z) args s 0 0 (ra_A X)) (I t) t) : ra_At X p l e rm_N_waysBy s m args below meth c 8 (MQ below (ra_Qc X Z) args s 0 0 (ra_A X)) (b_N_waysBy_150 c0 c1 I Z) 150 :=
  r_iconst F d_N_waysBy_150 (by decide) <| (o_N_waysBy_151 h0 h1 F hr hlk hI)
theorem o_N_waysBy_140 {X : ra_X} {p : Program} {l : Launch} {e : Env} {s : State} {m : MethodId} {args : Array Value} {below : List Frame} {meth : Method} {c : Code} {Z : ra_R} {c0 c1 : ra_Sp}  (h0 : ra_MOK l X mi_N_ones c0) (h1 : ra_MOK l X mi_N_isIn c1) (F : ra_Fx X p rm_N_waysBy s m args c prog_13_method_52_code 8 cn_N) (hr : meth.sig.returnType = (some .int)) (hlk : meth.locks = false) {I : Nat → ra_K} (hI : ∀ t ∈ [12, 44, 60], ra_At X p l e rm_N_waysBy s m args below meth c 8 (MQ below (ra_Qc X Z) args s 0 0 (ra_A X)) (I t) t) : ra_At X p l e rm_N_waysBy s m args below meth c 8 (MQ below (ra_Qc X Z) args s 0 0 (ra_A X)) (b_N_waysBy_140 c0 c1 I Z) 140 :=
  r_aload_n F d_N_waysBy_140 rfl <| r_getR F cg_N (j := 27) (by decide) rfl fl_N_82 d_N_waysBy_141 <| r_iload F d_N_waysBy_144 <| r_iaload F d_N_waysBy_146 <| r_goto F d_N_waysBy_147 (by decide) (o_N_waysBy_151 h0 h1 F hr hlk hI)
theorem o_N_waysBy_120 {X : ra_X} {p : Program} {l : Launch} {e : Env} {s : State} {m : MethodId} {args : Array Value} {below : List Frame} {meth : Method} {c : Code} {Z : ra_R} {c0 c1 : ra_Sp}  (h0 : ra_MOK l X mi_N_ones c0) (h1 : ra_MOK l X mi_N_isIn c1) (F : ra_Fx X p rm_N_waysBy s m args c prog_13_method_52_code 8 cn_N) (hr : meth.sig.returnType = (some .int)) (hlk : meth.locks = false) {I : Nat → ra_K} (hI : ∀ t ∈ [12, 44, 60], ra_At X p l e rm_N_waysBy s m args below meth c 8 (MQ below (ra_Qc X Z) args s 0 0 (ra_A X)) (I t) t) : ra_At X p l e rm_N_waysBy s m args below meth c 8 (MQ below (ra_Qc X Z) args s 0 0 (ra_A X)) (b_N_waysBy_120 c0 c1 I Z) 120 :=
  r_istore F d_N_waysBy_120 (by decide) <| r_aload_n F d_N_waysBy_122 rfl <| r_getR F cg_N (j := 27) (by decide) rfl fl_N_82 d_N_waysBy_123 <| r_iload F d_N_waysBy_126 <| r_iconst F d_N_waysBy_128 (by decide) <| r_iload F d_N_waysBy_129 <| r_ishl F d_N_waysBy_131 <| r_ior F d_N_waysBy_132 <| r_dup2 F d_N_waysBy_133 <| r_iaload F d_N_waysBy_134 <| r_iload F d_N_waysBy_135 <| r_if_eq F d_N_waysBy_137 (by decide) (o_N_waysBy_150 h0 h1 F hr hlk hI) (o_N_waysBy_140 h0 h1 F hr hlk hI)
theorem o_N_waysBy_119 {X : ra_X} {p : Program} {l : Launch} {e : Env} {s : State} {m : MethodId} {args : Array Value} {below : List Frame} {meth : Method} {c : Code} {Z : ra_R} {c0 c1 : ra_Sp}  (h0 : ra_MOK l X mi_N_ones c0) (h1 : ra_MOK l X mi_N_isIn c1) (F : ra_Fx X p rm_N_waysBy s m args c prog_13_method_52_code 8 cn_N) (hr : meth.sig.returnType = (some .int)) (hlk : meth.locks = false) {I : Nat → ra_K} (hI : ∀ t ∈ [12, 44, 60], ra_At X p l e rm_N_waysBy s m args below meth c 8 (MQ below (ra_Qc X Z) args s 0 0 (ra_A X)) (I t) t) : ra_At X p l e rm_N_waysBy s m args below meth c 8 (MQ below (ra_Qc X Z) args s 0 0 (ra_A X)) (b_N_waysBy_119 c0 c1 I Z) 119 :=
  r_iconst F d_N_waysBy_119 (by decide) <| (o_N_waysBy_120 h0 h1 F hr hlk hI)
theorem o_N_waysBy_115 {X : ra_X} {p : Program} {l : Launch} {e : Env} {s : State} {m : MethodId} {args : Array Value} {below : List Frame} {meth : Method} {c : Code} {Z : ra_R} {c0 c1 : ra_Sp}  (h0 : ra_MOK l X mi_N_ones c0) (h1 : ra_MOK l X mi_N_isIn c1) (F : ra_Fx X p rm_N_waysBy s m args c prog_13_method_52_code 8 cn_N) (hr : meth.sig.returnType = (some .int)) (hlk : meth.locks = false) {I : Nat → ra_K} (hI : ∀ t ∈ [12, 44, 60], ra_At X p l e rm_N_waysBy s m args below meth c 8 (MQ below (ra_Qc X Z) args s 0 0 (ra_A X)) (I t) t) : ra_At X p l e rm_N_waysBy s m args below meth c 8 (MQ below (ra_Qc X Z) args s 0 0 (ra_A X)) (b_N_waysBy_115 c0 c1 I Z) 115 :=
  r_iconst F d_N_waysBy_115 (by decide) <| r_goto F d_N_waysBy_116 (by decide) (o_N_waysBy_120 h0 h1 F hr hlk hI)
theorem o_N_waysBy_109 {X : ra_X} {p : Program} {l : Launch} {e : Env} {s : State} {m : MethodId} {args : Array Value} {below : List Frame} {meth : Method} {c : Code} {Z : ra_R} {c0 c1 : ra_Sp}  (h0 : ra_MOK l X mi_N_ones c0) (h1 : ra_MOK l X mi_N_isIn c1) (F : ra_Fx X p rm_N_waysBy s m args c prog_13_method_52_code 8 cn_N) (hr : meth.sig.returnType = (some .int)) (hlk : meth.locks = false) {I : Nat → ra_K} (hI : ∀ t ∈ [12, 44, 60], ra_At X p l e rm_N_waysBy s m args below meth c 8 (MQ below (ra_Qc X Z) args s 0 0 (ra_A X)) (I t) t) : ra_At X p l e rm_N_waysBy s m args below meth c 8 (MQ below (ra_Qc X Z) args s 0 0 (ra_A X)) (b_N_waysBy_109 c0 c1 I Z) 109 :=
  r_iload F d_N_waysBy_109 <| r_iload_n F d_N_waysBy_111 rfl <| r_icmp_ne F d_N_waysBy_112 (by decide) (o_N_waysBy_119 h0 h1 F hr hlk hI) (o_N_waysBy_115 h0 h1 F hr hlk hI)
theorem o_N_waysBy_103 {X : ra_X} {p : Program} {l : Launch} {e : Env} {s : State} {m : MethodId} {args : Array Value} {below : List Frame} {meth : Method} {c : Code} {Z : ra_R} {c0 c1 : ra_Sp}  (h0 : ra_MOK l X mi_N_ones c0) (h1 : ra_MOK l X mi_N_isIn c1) (F : ra_Fx X p rm_N_waysBy s m args c prog_13_method_52_code 8 cn_N) (hr : meth.sig.returnType = (some .int)) (hlk : meth.locks = false) {I : Nat → ra_K} (hI : ∀ t ∈ [12, 44, 60], ra_At X p l e rm_N_waysBy s m args below meth c 8 (MQ below (ra_Qc X Z) args s 0 0 (ra_A X)) (I t) t) : ra_At X p l e rm_N_waysBy s m args below meth c 8 (MQ below (ra_Qc X Z) args s 0 0 (ra_A X)) (b_N_waysBy_103 c0 c1 I Z) 103 :=
  r_iload F d_N_waysBy_103 <| r_iload_n F d_N_waysBy_105 rfl <| r_icmp_ne F d_N_waysBy_106 (by decide) (o_N_waysBy_115 h0 h1 F hr hlk hI) (o_N_waysBy_109 h0 h1 F hr hlk hI)
theorem o_N_waysBy_93 {X : ra_X} {p : Program} {l : Launch} {e : Env} {s : State} {m : MethodId} {args : Array Value} {below : List Frame} {meth : Method} {c : Code} {Z : ra_R} {c0 c1 : ra_Sp}  (h0 : ra_MOK l X mi_N_ones c0) (h1 : ra_MOK l X mi_N_isIn c1) (F : ra_Fx X p rm_N_waysBy s m args c prog_13_method_52_code 8 cn_N) (hr : meth.sig.returnType = (some .int)) (hlk : meth.locks = false) {I : Nat → ra_K} (hI : ∀ t ∈ [12, 44, 60], ra_At X p l e rm_N_waysBy s m args below meth c 8 (MQ below (ra_Qc X Z) args s 0 0 (ra_A X)) (I t) t) : ra_At X p l e rm_N_waysBy s m args below meth c 8 (MQ below (ra_Qc X Z) args s 0 0 (ra_A X)) (b_N_waysBy_93 c0 c1 I Z) 93 :=
  r_iload F d_N_waysBy_93 <| r_iload F d_N_waysBy_95 <| r_callS F h1 (co_N_isIn (by decide +kernel) (by decide +kernel)) ⟨rfl, by decide +kernel⟩ ml_N_116 st_N_isIn d_N_waysBy_97 <| r_if_ne F d_N_waysBy_100 (by decide) (o_N_waysBy_119 h0 h1 F hr hlk hI) (o_N_waysBy_103 h0 h1 F hr hlk hI)
theorem o_N_waysBy_78 {X : ra_X} {p : Program} {l : Launch} {e : Env} {s : State} {m : MethodId} {args : Array Value} {below : List Frame} {meth : Method} {c : Code} {Z : ra_R} {c0 c1 : ra_Sp}  (h0 : ra_MOK l X mi_N_ones c0) (h1 : ra_MOK l X mi_N_isIn c1) (F : ra_Fx X p rm_N_waysBy s m args c prog_13_method_52_code 8 cn_N) (hr : meth.sig.returnType = (some .int)) (hlk : meth.locks = false) {I : Nat → ra_K} (hI : ∀ t ∈ [12, 44, 60], ra_At X p l e rm_N_waysBy s m args below meth c 8 (MQ below (ra_Qc X Z) args s 0 0 (ra_A X)) (I t) t) : ra_At X p l e rm_N_waysBy s m args below meth c 8 (MQ below (ra_Qc X Z) args s 0 0 (ra_A X)) (b_N_waysBy_78 c0 c1 I Z) 78 :=
  r_aload_n F d_N_waysBy_78 rfl <| r_getR F cg_N (j := 26) (by decide) rfl fl_N_79 d_N_waysBy_79 <| r_iload F d_N_waysBy_82 <| r_iaload F d_N_waysBy_84 <| r_iload F d_N_waysBy_85 <| r_callS F h1 (co_N_isIn (by decide +kernel) (by decide +kernel)) ⟨rfl, by decide +kernel⟩ ml_N_116 st_N_isIn d_N_waysBy_87 <| r_if_eq F d_N_waysBy_90 (by decide) (o_N_waysBy_119 h0 h1 F hr hlk hI) (o_N_waysBy_93 h0 h1 F hr hlk hI)
theorem o_N_waysBy_69 {X : ra_X} {p : Program} {l : Launch} {e : Env} {s : State} {m : MethodId} {args : Array Value} {below : List Frame} {meth : Method} {c : Code} {Z : ra_R} {c0 c1 : ra_Sp}  (h0 : ra_MOK l X mi_N_ones c0) (h1 : ra_MOK l X mi_N_isIn c1) (F : ra_Fx X p rm_N_waysBy s m args c prog_13_method_52_code 8 cn_N) (hr : meth.sig.returnType = (some .int)) (hlk : meth.locks = false) {I : Nat → ra_K} (hI : ∀ t ∈ [12, 44, 60], ra_At X p l e rm_N_waysBy s m args below meth c 8 (MQ below (ra_Qc X Z) args s 0 0 (ra_A X)) (I t) t) : ra_At X p l e rm_N_waysBy s m args below meth c 8 (MQ below (ra_Qc X Z) args s 0 0 (ra_A X)) (b_N_waysBy_69 c0 c1 I Z) 69 :=
  r_iload F d_N_waysBy_69 <| r_aload_n F d_N_waysBy_71 rfl <| r_getI F cg_N (j := 2) (by decide) rfl fl_N_109 d_N_waysBy_72 <| r_icmp_ge F d_N_waysBy_75 (by decide) (o_N_waysBy_159 h0 h1 F hr hlk hI) (o_N_waysBy_78 h0 h1 F hr hlk hI)
theorem o_N_waysBy_60 {X : ra_X} {p : Program} {l : Launch} {e : Env} {s : State} {m : MethodId} {args : Array Value} {below : List Frame} {meth : Method} {c : Code} {Z : ra_R} {c0 c1 : ra_Sp}  (h0 : ra_MOK l X mi_N_ones c0) (h1 : ra_MOK l X mi_N_isIn c1) (F : ra_Fx X p rm_N_waysBy s m args c prog_13_method_52_code 8 cn_N) (hr : meth.sig.returnType = (some .int)) (hlk : meth.locks = false) {I : Nat → ra_K} (hI : ∀ t ∈ [12, 44, 60], ra_At X p l e rm_N_waysBy s m args below meth c 8 (MQ below (ra_Qc X Z) args s 0 0 (ra_A X)) (I t) t) : ra_At X p l e rm_N_waysBy s m args below meth c 8 (MQ below (ra_Qc X Z) args s 0 0 (ra_A X)) (b_N_waysBy_60 c0 c1 I Z) 60 :=
  r_iload F d_N_waysBy_60 <| r_aload_n F d_N_waysBy_62 rfl <| r_getI F cg_N (j := 2) (by decide) rfl fl_N_109 d_N_waysBy_63 <| r_icmp_ge F d_N_waysBy_66 (by decide) (o_N_waysBy_159 h0 h1 F hr hlk hI) (o_N_waysBy_69 h0 h1 F hr hlk hI)
theorem o_N_waysBy_50 {X : ra_X} {p : Program} {l : Launch} {e : Env} {s : State} {m : MethodId} {args : Array Value} {below : List Frame} {meth : Method} {c : Code} {Z : ra_R} {c0 c1 : ra_Sp}  (h0 : ra_MOK l X mi_N_ones c0) (h1 : ra_MOK l X mi_N_isIn c1) (F : ra_Fx X p rm_N_waysBy s m args c prog_13_method_52_code 8 cn_N) (hr : meth.sig.returnType = (some .int)) (hlk : meth.locks = false) {I : Nat → ra_K} (hI : ∀ t ∈ [12, 44, 60], ra_At X p l e rm_N_waysBy s m args below meth c 8 (MQ below (ra_Qc X Z) args s 0 0 (ra_A X)) (I t) t) : ra_At X p l e rm_N_waysBy s m args below meth c 8 (MQ below (ra_Qc X Z) args s 0 0 (ra_A X)) (b_N_waysBy_50 c0 c1 I Z) 50 :=
  r_iload F d_N_waysBy_50 <| r_callS F h0 (co_N_ones (by decide +kernel) (by decide +kernel)) ⟨rfl, by decide +kernel⟩ ml_N_182 st_N_ones d_N_waysBy_52 <| r_istore F d_N_waysBy_55 (by decide) <| r_iconst F d_N_waysBy_57 (by decide) <| r_istore F d_N_waysBy_58 (by decide) <| (hI 60 (by decide))
theorem o_N_waysBy_44 {X : ra_X} {p : Program} {l : Launch} {e : Env} {s : State} {m : MethodId} {args : Array Value} {below : List Frame} {meth : Method} {c : Code} {Z : ra_R} {c0 c1 : ra_Sp}  (h0 : ra_MOK l X mi_N_ones c0) (h1 : ra_MOK l X mi_N_isIn c1) (F : ra_Fx X p rm_N_waysBy s m args c prog_13_method_52_code 8 cn_N) (hr : meth.sig.returnType = (some .int)) (hlk : meth.locks = false) {I : Nat → ra_K} (hI : ∀ t ∈ [12, 44, 60], ra_At X p l e rm_N_waysBy s m args below meth c 8 (MQ below (ra_Qc X Z) args s 0 0 (ra_A X)) (I t) t) : ra_At X p l e rm_N_waysBy s m args below meth c 8 (MQ below (ra_Qc X Z) args s 0 0 (ra_A X)) (b_N_waysBy_44 c0 c1 I Z) 44 :=
  r_iload F d_N_waysBy_44 <| r_iload_n F d_N_waysBy_46 rfl <| r_icmp_gt F d_N_waysBy_47 (by decide) (o_N_waysBy_165 h0 h1 F hr hlk hI) (o_N_waysBy_50 h0 h1 F hr hlk hI)
theorem o_N_waysBy_41 {X : ra_X} {p : Program} {l : Launch} {e : Env} {s : State} {m : MethodId} {args : Array Value} {below : List Frame} {meth : Method} {c : Code} {Z : ra_R} {c0 c1 : ra_Sp}  (h0 : ra_MOK l X mi_N_ones c0) (h1 : ra_MOK l X mi_N_isIn c1) (F : ra_Fx X p rm_N_waysBy s m args c prog_13_method_52_code 8 cn_N) (hr : meth.sig.returnType = (some .int)) (hlk : meth.locks = false) {I : Nat → ra_K} (hI : ∀ t ∈ [12, 44, 60], ra_At X p l e rm_N_waysBy s m args below meth c 8 (MQ below (ra_Qc X Z) args s 0 0 (ra_A X)) (I t) t) : ra_At X p l e rm_N_waysBy s m args below meth c 8 (MQ below (ra_Qc X Z) args s 0 0 (ra_A X)) (b_N_waysBy_41 c0 c1 I Z) 41 :=
  r_iconst F d_N_waysBy_41 (by decide) <| r_istore F d_N_waysBy_42 (by decide) <| (hI 44 (by decide))
theorem o_N_waysBy_34 {X : ra_X} {p : Program} {l : Launch} {e : Env} {s : State} {m : MethodId} {args : Array Value} {below : List Frame} {meth : Method} {c : Code} {Z : ra_R} {c0 c1 : ra_Sp}  (h0 : ra_MOK l X mi_N_ones c0) (h1 : ra_MOK l X mi_N_isIn c1) (F : ra_Fx X p rm_N_waysBy s m args c prog_13_method_52_code 8 cn_N) (hr : meth.sig.returnType = (some .int)) (hlk : meth.locks = false) {I : Nat → ra_K} (hI : ∀ t ∈ [12, 44, 60], ra_At X p l e rm_N_waysBy s m args below meth c 8 (MQ below (ra_Qc X Z) args s 0 0 (ra_A X)) (I t) t) : ra_At X p l e rm_N_waysBy s m args below meth c 8 (MQ below (ra_Qc X Z) args s 0 0 (ra_A X)) (b_N_waysBy_34 c0 c1 I Z) 34 :=
  r_iastore F d_N_waysBy_34 <| r_iinc F d_N_waysBy_35 (by decide) (by decide) <| r_goto F d_N_waysBy_38 (by decide) (hI 12 (by decide))
theorem o_N_waysBy_33 {X : ra_X} {p : Program} {l : Launch} {e : Env} {s : State} {m : MethodId} {args : Array Value} {below : List Frame} {meth : Method} {c : Code} {Z : ra_R} {c0 c1 : ra_Sp}  (h0 : ra_MOK l X mi_N_ones c0) (h1 : ra_MOK l X mi_N_isIn c1) (F : ra_Fx X p rm_N_waysBy s m args c prog_13_method_52_code 8 cn_N) (hr : meth.sig.returnType = (some .int)) (hlk : meth.locks = false) {I : Nat → ra_K} (hI : ∀ t ∈ [12, 44, 60], ra_At X p l e rm_N_waysBy s m args below meth c 8 (MQ below (ra_Qc X Z) args s 0 0 (ra_A X)) (I t) t) : ra_At X p l e rm_N_waysBy s m args below meth c 8 (MQ below (ra_Qc X Z) args s 0 0 (ra_A X)) (b_N_waysBy_33 c0 c1 I Z) 33 :=
  r_iconst F d_N_waysBy_33 (by decide) <| (o_N_waysBy_34 h0 h1 F hr hlk hI)
theorem o_N_waysBy_29 {X : ra_X} {p : Program} {l : Launch} {e : Env} {s : State} {m : MethodId} {args : Array Value} {below : List Frame} {meth : Method} {c : Code} {Z : ra_R} {c0 c1 : ra_Sp}  (h0 : ra_MOK l X mi_N_ones c0) (h1 : ra_MOK l X mi_N_isIn c1) (F : ra_Fx X p rm_N_waysBy s m args c prog_13_method_52_code 8 cn_N) (hr : meth.sig.returnType = (some .int)) (hlk : meth.locks = false) {I : Nat → ra_K} (hI : ∀ t ∈ [12, 44, 60], ra_At X p l e rm_N_waysBy s m args below meth c 8 (MQ below (ra_Qc X Z) args s 0 0 (ra_A X)) (I t) t) : ra_At X p l e rm_N_waysBy s m args below meth c 8 (MQ below (ra_Qc X Z) args s 0 0 (ra_A X)) (b_N_waysBy_29 c0 c1 I Z) 29 :=
  r_iconst F d_N_waysBy_29 (by decide) <| r_goto F d_N_waysBy_30 (by decide) (o_N_waysBy_34 h0 h1 F hr hlk hI)
theorem o_N_waysBy_18 {X : ra_X} {p : Program} {l : Launch} {e : Env} {s : State} {m : MethodId} {args : Array Value} {below : List Frame} {meth : Method} {c : Code} {Z : ra_R} {c0 c1 : ra_Sp}  (h0 : ra_MOK l X mi_N_ones c0) (h1 : ra_MOK l X mi_N_isIn c1) (F : ra_Fx X p rm_N_waysBy s m args c prog_13_method_52_code 8 cn_N) (hr : meth.sig.returnType = (some .int)) (hlk : meth.locks = false) {I : Nat → ra_K} (hI : ∀ t ∈ [12, 44, 60], ra_At X p l e rm_N_waysBy s m args below meth c 8 (MQ below (ra_Qc X Z) args s 0 0 (ra_A X)) (I t) t) : ra_At X p l e rm_N_waysBy s m args below meth c 8 (MQ below (ra_Qc X Z) args s 0 0 (ra_A X)) (b_N_waysBy_18 c0 c1 I Z) 18 :=
  r_aload_n F d_N_waysBy_18 rfl <| r_getR F cg_N (j := 27) (by decide) rfl fl_N_82 d_N_waysBy_19 <| r_iload F d_N_waysBy_22 <| r_iload F d_N_waysBy_24 <| r_if_ne F d_N_waysBy_26 (by decide) (o_N_waysBy_33 h0 h1 F hr hlk hI) (o_N_waysBy_29 h0 h1 F hr hlk hI)
theorem o_N_waysBy_12 {X : ra_X} {p : Program} {l : Launch} {e : Env} {s : State} {m : MethodId} {args : Array Value} {below : List Frame} {meth : Method} {c : Code} {Z : ra_R} {c0 c1 : ra_Sp}  (h0 : ra_MOK l X mi_N_ones c0) (h1 : ra_MOK l X mi_N_isIn c1) (F : ra_Fx X p rm_N_waysBy s m args c prog_13_method_52_code 8 cn_N) (hr : meth.sig.returnType = (some .int)) (hlk : meth.locks = false) {I : Nat → ra_K} (hI : ∀ t ∈ [12, 44, 60], ra_At X p l e rm_N_waysBy s m args below meth c 8 (MQ below (ra_Qc X Z) args s 0 0 (ra_A X)) (I t) t) : ra_At X p l e rm_N_waysBy s m args below meth c 8 (MQ below (ra_Qc X Z) args s 0 0 (ra_A X)) (b_N_waysBy_12 c0 c1 I Z) 12 :=
  r_iload F d_N_waysBy_12 <| r_iload_n F d_N_waysBy_14 rfl <| r_icmp_gt F d_N_waysBy_15 (by decide) (o_N_waysBy_41 h0 h1 F hr hlk hI) (o_N_waysBy_18 h0 h1 F hr hlk hI)
theorem o_N_waysBy_0 {X : ra_X} {p : Program} {l : Launch} {e : Env} {s : State} {m : MethodId} {args : Array Value} {below : List Frame} {meth : Method} {c : Code} {Z : ra_R} {c0 c1 : ra_Sp}  (h0 : ra_MOK l X mi_N_ones c0) (h1 : ra_MOK l X mi_N_isIn c1) (F : ra_Fx X p rm_N_waysBy s m args c prog_13_method_52_code 8 cn_N) (hr : meth.sig.returnType = (some .int)) (hlk : meth.locks = false) {I : Nat → ra_K} (hI : ∀ t ∈ [12, 44, 60], ra_At X p l e rm_N_waysBy s m args below meth c 8 (MQ below (ra_Qc X Z) args s 0 0 (ra_A X)) (I t) t) : ra_At X p l e rm_N_waysBy s m args below meth c 8 (MQ below (ra_Qc X Z) args s 0 0 (ra_A X)) (b_N_waysBy_0 c0 c1 I Z) 0 :=
  r_iconst F d_N_waysBy_0 (by decide) <| r_aload_n F d_N_waysBy_1 rfl <| r_getI F cg_N (j := 2) (by decide) rfl fl_N_109 d_N_waysBy_2 <| r_ishl F d_N_waysBy_5 <| r_iconst F d_N_waysBy_6 (by decide) <| r_isub F d_N_waysBy_7 <| r_istore_n F d_N_waysBy_8 rfl (by decide) <| r_iconst F d_N_waysBy_9 (by decide) <| r_istore F d_N_waysBy_10 (by decide) <| (hI 12 (by decide))
theorem g_N_waysBy {l : Launch} {X : ra_X} {c0 c1 : ra_Sp}  (h0 : ra_MOK l X mi_N_ones c0) (h1 : ra_MOK l X mi_N_isIn c1) (sp : ra_Sp) (I : ra_R → List Value → ra_St → Nat → ra_M → ra_K) (ve : ∀ as σ Z, ra_c1 as = true → as.length = 3 → sp as σ Z → b_N_waysBy_0 c0 c1 (ra_I (I Z as σ)) Z (ra_pad 8 as) [] σ) (v12 : ∀ as σ Z, sp as σ Z → ∀ μ L S σ1, I Z as σ 12 μ L S σ1 → b_N_waysBy_12 c0 c1 (ra_J (I Z as σ) μ) Z L S σ1) (v44 : ∀ as σ Z, sp as σ Z → ∀ μ L S σ1, I Z as σ 44 μ L S σ1 → b_N_waysBy_44 c0 c1 (ra_J (I Z as σ) μ) Z L S σ1) (v60 : ∀ as σ Z, sp as σ Z → ∀ μ L S σ1, I Z as σ 60 μ L S σ1 → b_N_waysBy_60 c0 c1 (ra_J (I Z as σ) μ) Z L S σ1) : ra_MOK l X mi_N_waysBy sp := by
  refine ra_enter (k := fun Z as σ => b_N_waysBy_0 c0 c1 (ra_I (I Z as σ)) Z) cn_N rfl (by decide +kernel) ⟨by decide +kernel, by decide +kernel⟩ (by decide +kernel) ?_ ve
  intro p e s m args below meth c Z as σ hsp F hr hlk
  refine o_N_waysBy_0 h0 h1 F hr hlk (ra_cuts (b := fun t J => if t = 12 then b_N_waysBy_12 c0 c1 J Z else if t = 44 then b_N_waysBy_44 c0 c1 J Z else if t = 60 then b_N_waysBy_60 c0 c1 J Z else fun _ _ _ => False) ?_ ?_)
  · intro t ht J hJ
    simp only [List.mem_cons, List.not_mem_nil, or_false] at ht
    rcases ht with rfl | rfl | rfl
    · exact o_N_waysBy_12 h0 h1 F hr hlk hJ
    · exact o_N_waysBy_44 h0 h1 F hr hlk hJ
    · exact o_N_waysBy_60 h0 h1 F hr hlk hJ
  · intro t ht μ L S σ1 hI
    simp only [List.mem_cons, List.not_mem_nil, or_false] at ht
    rcases ht with rfl | rfl | rfl
    · exact v12 as σ Z hsp μ L S σ1 hI
    · exact v44 as σ Z hsp μ L S σ1 hI
    · exact v60 as σ Z hsp μ L S σ1 hI

theorem d_N_waysNow_0 : decode prog_13_method_53_code 0 = .ok (.aload_n 0, 1) := by decide +kernel
theorem d_N_waysNow_1 : decode prog_13_method_53_code 1 = .ok (.invokevirtual 206, 3) := by decide +kernel
theorem d_N_waysNow_4 : decode prog_13_method_53_code 4 = .ok (.iconst 0, 1) := by decide +kernel
theorem d_N_waysNow_5 : decode prog_13_method_53_code 5 = .ok (.istore_n 1, 1) := by decide +kernel
theorem d_N_waysNow_6 : decode prog_13_method_53_code 6 = .ok (.iconst 0, 1) := by decide +kernel
theorem d_N_waysNow_7 : decode prog_13_method_53_code 7 = .ok (.istore_n 2, 1) := by decide +kernel
theorem d_N_waysNow_8 : decode prog_13_method_53_code 8 = .ok (.iload_n 2, 1) := by decide +kernel
theorem d_N_waysNow_9 : decode prog_13_method_53_code 9 = .ok (.aload_n 0, 1) := by decide +kernel
theorem d_N_waysNow_10 : decode prog_13_method_53_code 10 = .ok (.getfield 203, 3) := by decide +kernel
theorem d_N_waysNow_13 : decode prog_13_method_53_code 13 = .ok (.if_icmp .ge 29, 3) := by decide +kernel
theorem d_N_waysNow_16 : decode prog_13_method_53_code 16 = .ok (.iload_n 1, 1) := by decide +kernel
theorem d_N_waysNow_17 : decode prog_13_method_53_code 17 = .ok (.ifCond .ne 13, 3) := by decide +kernel
theorem d_N_waysNow_20 : decode prog_13_method_53_code 20 = .ok (.aload_n 0, 1) := by decide +kernel
theorem d_N_waysNow_21 : decode prog_13_method_53_code 21 = .ok (.getfield 76, 3) := by decide +kernel
theorem d_N_waysNow_24 : decode prog_13_method_53_code 24 = .ok (.iload_n 2, 1) := by decide +kernel
theorem d_N_waysNow_25 : decode prog_13_method_53_code 25 = .ok (.iaload, 1) := by decide +kernel
theorem d_N_waysNow_26 : decode prog_13_method_53_code 26 = .ok (.iconst 1, 1) := by decide +kernel
theorem d_N_waysNow_27 : decode prog_13_method_53_code 27 = .ok (.if_icmp .ne 7, 3) := by decide +kernel
theorem d_N_waysNow_30 : decode prog_13_method_53_code 30 = .ok (.iconst 1, 1) := by decide +kernel
theorem d_N_waysNow_31 : decode prog_13_method_53_code 31 = .ok (.goto 4, 3) := by decide +kernel
theorem d_N_waysNow_34 : decode prog_13_method_53_code 34 = .ok (.iconst 0, 1) := by decide +kernel
theorem d_N_waysNow_35 : decode prog_13_method_53_code 35 = .ok (.istore_n 1, 1) := by decide +kernel
theorem d_N_waysNow_36 : decode prog_13_method_53_code 36 = .ok (.iinc 2 1, 3) := by decide +kernel
theorem d_N_waysNow_39 : decode prog_13_method_53_code 39 = .ok (.goto (-31), 3) := by decide +kernel
theorem d_N_waysNow_42 : decode prog_13_method_53_code 42 = .ok (.aload_n 0, 1) := by decide +kernel
theorem d_N_waysNow_43 : decode prog_13_method_53_code 43 = .ok (.getfield 109, 3) := by decide +kernel
theorem d_N_waysNow_46 : decode prog_13_method_53_code 46 = .ok (.ifCond .ne 15, 3) := by decide +kernel
theorem d_N_waysNow_49 : decode prog_13_method_53_code 49 = .ok (.iload_n 1, 1) := by decide +kernel
theorem d_N_waysNow_50 : decode prog_13_method_53_code 50 = .ok (.ifCond .eq 7, 3) := by decide +kernel
theorem d_N_waysNow_53 : decode prog_13_method_53_code 53 = .ok (.iconst 0, 1) := by decide +kernel
theorem d_N_waysNow_54 : decode prog_13_method_53_code 54 = .ok (.goto 13, 3) := by decide +kernel
theorem d_N_waysNow_57 : decode prog_13_method_53_code 57 = .ok (.iconst 1, 1) := by decide +kernel
theorem d_N_waysNow_58 : decode prog_13_method_53_code 58 = .ok (.goto 9, 3) := by decide +kernel
theorem d_N_waysNow_61 : decode prog_13_method_53_code 61 = .ok (.aload_n 0, 1) := by decide +kernel
theorem d_N_waysNow_62 : decode prog_13_method_53_code 62 = .ok (.iconst (-1), 1) := by decide +kernel
theorem d_N_waysNow_63 : decode prog_13_method_53_code 63 = .ok (.iconst (-1), 1) := by decide +kernel
theorem d_N_waysNow_64 : decode prog_13_method_53_code 64 = .ok (.invokevirtual 209, 3) := by decide +kernel
theorem d_N_waysNow_67 : decode prog_13_method_53_code 67 = .ok (.ireturn, 1) := by decide +kernel
def b_N_waysNow_67 (c0 c1 : ra_Sp) (I : Nat → ra_K) (Z : ra_R) : ra_K := w_ir Z
def b_N_waysNow_61 (c0 c1 : ra_Sp) (I : Nat → ra_K) (Z : ra_R) : ra_K := w_al 0 <| w_c (-1) <| w_c (-1) <| w_cv c1 3 11 <| (b_N_waysNow_67 c0 c1 I Z)
def b_N_waysNow_57 (c0 c1 : ra_Sp) (I : Nat → ra_K) (Z : ra_R) : ra_K := w_c 1 <| (b_N_waysNow_67 c0 c1 I Z)
def b_N_waysNow_53 (c0 c1 : ra_Sp) (I : Nat → ra_K) (Z : ra_R) : ra_K := w_c 0 <| (b_N_waysNow_67 c0 c1 I Z)
def b_N_waysNow_49 (c0 c1 : ra_Sp) (I : Nat → ra_K) (Z : ra_R) : ra_K := w_il 1 <| w_b1 (fun x => x = 0) (b_N_waysNow_57 c0 c1 I Z) (b_N_waysNow_53 c0 c1 I Z)
def b_N_waysNow_42 (c0 c1 : ra_Sp) (I : Nat → ra_K) (Z : ra_R) : ra_K := w_al 0 <| w_gi 11 2 <| w_b1 (fun x => x = 0) (b_N_waysNow_49 c0 c1 I Z) (b_N_waysNow_61 c0 c1 I Z)
def b_N_waysNow_35 (c0 c1 : ra_Sp) (I : Nat → ra_K) (Z : ra_R) : ra_K := w_is 1 <| w_inc 2 1 <| (I 8)
def b_N_waysNow_34 (c0 c1 : ra_Sp) (I : Nat → ra_K) (Z : ra_R) : ra_K := w_c 0 <| (b_N_waysNow_35 c0 c1 I Z)
def b_N_waysNow_30 (c0 c1 : ra_Sp) (I : Nat → ra_K) (Z : ra_R) : ra_K := w_c 1 <| (b_N_waysNow_35 c0 c1 I Z)
def b_N_waysNow_20 (c0 c1 : ra_Sp) (I : Nat → ra_K) (Z : ra_R) : ra_K := w_al 0 <| w_gr 11 25 <| w_il 2 <| w_ald <| w_c 1 <| w_b2 (fun x y => x = y) (b_N_waysNow_30 c0 c1 I Z) (b_N_waysNow_34 c0 c1 I Z)
def b_N_waysNow_16 (c0 c1 : ra_Sp) (I : Nat → ra_K) (Z : ra_R) : ra_K := w_il 1 <| w_b1 (fun x => x = 0) (b_N_waysNow_20 c0 c1 I Z) (b_N_waysNow_30 c0 c1 I Z)
def b_N_waysNow_8 (c0 c1 : ra_Sp) (I : Nat → ra_K) (Z : ra_R) : ra_K := w_il 2 <| w_al 0 <| w_gi 11 22 <| w_b2 (fun x y => y ≤ x) (b_N_waysNow_42 c0 c1 I Z) (b_N_waysNow_16 c0 c1 I Z)
def b_N_waysNow_0 (c0 c1 : ra_Sp) (I : Nat → ra_K) (Z : ra_R) : ra_K := w_al 0 <| w_cv c0 1 11 <| w_c 0 <| w_is 1 <| w_c 0 <| w_is 2 <| (I 8)
theorem o_N_waysNow_67 {X : ra_X} {p : Program} {l : Launch} {e : Env} {s : State} {m : MethodId} {args : Array Value} {below : List Frame} {meth : Method} {c : Code} {Z : ra_R} {c0 c1 : ra_Sp}  (h0 : ra_MOK l X mi_N_laysMay c0) (h1 : ra_MOK l X mi_N_waysBy c1) (F : ra_Fx X p rm_N_waysNow s m args c prog_13_method_53_code 3 cn_N) (hr : meth.sig.returnType = (some .int)) (hlk : meth.locks = false) {I : Nat → ra_K} (hI : ∀ t ∈ [8], ra_At X p l e rm_N_waysNow s m args below meth c 3 (MQ below (ra_Qc X Z) args s 0 0 (ra_A X)) (I t) t) : ra_At X p l e rm_N_waysNow s m args below meth c 3 (MQ below (ra_Qc X Z) args s 0 0 (ra_A X)) (b_N_waysNow_67 c0 c1 I Z) 67 :=
  r_ireturn F hr hlk d_N_waysNow_67
theorem o_N_waysNow_61 {X : ra_X} {p : Program} {l : Launch} {e : Env} {s : State} {m : MethodId} {args : Array Value} {below : List Frame} {meth : Method} {c : Code} {Z : ra_R} {c0 c1 : ra_Sp}  (h0 : ra_MOK l X mi_N_laysMay c0) (h1 : ra_MOK l X mi_N_waysBy c1) (F : ra_Fx X p rm_N_waysNow s m args c prog_13_method_53_code 3 cn_N) (hr : meth.sig.returnType = (some .int)) (hlk : meth.locks = false) {I : Nat → ra_K} (hI : ∀ t ∈ [8], ra_At X p l e rm_N_waysNow s m args below meth c 3 (MQ below (ra_Qc X Z) args s 0 0 (ra_A X)) (I t) t) : ra_At X p l e rm_N_waysNow s m args below meth c 3 (MQ below (ra_Qc X Z) args s 0 0 (ra_A X)) (b_N_waysNow_61 c0 c1 I Z) 61 :=
  r_aload_n F d_N_waysNow_61 rfl <| r_iconst F d_N_waysNow_62 (by decide) <| r_iconst F d_N_waysNow_63 (by decide) <| r_callV F h1 (co_N_waysBy (by decide +kernel) (by decide +kernel)) ⟨rfl, by decide +kernel⟩ ⟨rfl, by decide⟩ ml_N_209 im_N_waysBy se_N_waysBy d_N_waysNow_64 <| (o_N_waysNow_67 h0 h1 F hr hlk hI)
theorem o_N_waysNow_57 {X : ra_X} {p : Program} {l : Launch} {e : Env} {s : State} {m : MethodId} {args : Array Value} {below : List Frame} {meth : Method} {c : Code} {Z : ra_R} {c0 c1 : ra_Sp}  (h0 : ra_MOK l X mi_N_laysMay c0) (h1 : ra_MOK l X mi_N_waysBy c1) (F : ra_Fx X p rm_N_waysNow s m args c prog_13_method_53_code 3 cn_N) (hr : meth.sig.returnType = (some .int)) (hlk : meth.locks = false) {I : Nat → ra_K} (hI : ∀ t ∈ [8], ra_At X p l e rm_N_waysNow s m args below meth c 3 (MQ below (ra_Qc X Z) args s 0 0 (ra_A X)) (I t) t) : ra_At X p l e rm_N_waysNow s m args below meth c 3 (MQ below (ra_Qc X Z) args s 0 0 (ra_A X)) (b_N_waysNow_57 c0 c1 I Z) 57 :=
  r_iconst F d_N_waysNow_57 (by decide) <| r_goto F d_N_waysNow_58 (by decide) (o_N_waysNow_67 h0 h1 F hr hlk hI)
theorem o_N_waysNow_53 {X : ra_X} {p : Program} {l : Launch} {e : Env} {s : State} {m : MethodId} {args : Array Value} {below : List Frame} {meth : Method} {c : Code} {Z : ra_R} {c0 c1 : ra_Sp}  (h0 : ra_MOK l X mi_N_laysMay c0) (h1 : ra_MOK l X mi_N_waysBy c1) (F : ra_Fx X p rm_N_waysNow s m args c prog_13_method_53_code 3 cn_N) (hr : meth.sig.returnType = (some .int)) (hlk : meth.locks = false) {I : Nat → ra_K} (hI : ∀ t ∈ [8], ra_At X p l e rm_N_waysNow s m args below meth c 3 (MQ below (ra_Qc X Z) args s 0 0 (ra_A X)) (I t) t) : ra_At X p l e rm_N_waysNow s m args below meth c 3 (MQ below (ra_Qc X Z) args s 0 0 (ra_A X)) (b_N_waysNow_53 c0 c1 I Z) 53 :=
  r_iconst F d_N_waysNow_53 (by decide) <| r_goto F d_N_waysNow_54 (by decide) (o_N_waysNow_67 h0 h1 F hr hlk hI)
theorem o_N_waysNow_49 {X : ra_X} {p : Program} {l : Launch} {e : Env} {s : State} {m : MethodId} {args : Array Value} {below : List Frame} {meth : Method} {c : Code} {Z : ra_R} {c0 c1 : ra_Sp}  (h0 : ra_MOK l X mi_N_laysMay c0) (h1 : ra_MOK l X mi_N_waysBy c1) (F : ra_Fx X p rm_N_waysNow s m args c prog_13_method_53_code 3 cn_N) (hr : meth.sig.returnType = (some .int)) (hlk : meth.locks = false) {I : Nat → ra_K} (hI : ∀ t ∈ [8], ra_At X p l e rm_N_waysNow s m args below meth c 3 (MQ below (ra_Qc X Z) args s 0 0 (ra_A X)) (I t) t) : ra_At X p l e rm_N_waysNow s m args below meth c 3 (MQ below (ra_Qc X Z) args s 0 0 (ra_A X)) (b_N_waysNow_49 c0 c1 I Z) 49 :=
  r_iload_n F d_N_waysNow_49 rfl <| r_if_eq F d_N_waysNow_50 (by decide) (o_N_waysNow_57 h0 h1 F hr hlk hI) (o_N_waysNow_53 h0 h1 F hr hlk hI)
theorem o_N_waysNow_42 {X : ra_X} {p : Program} {l : Launch} {e : Env} {s : State} {m : MethodId} {args : Array Value} {below : List Frame} {meth : Method} {c : Code} {Z : ra_R} {c0 c1 : ra_Sp}  (h0 : ra_MOK l X mi_N_laysMay c0) (h1 : ra_MOK l X mi_N_waysBy c1) (F : ra_Fx X p rm_N_waysNow s m args c prog_13_method_53_code 3 cn_N) (hr : meth.sig.returnType = (some .int)) (hlk : meth.locks = false) {I : Nat → ra_K} (hI : ∀ t ∈ [8], ra_At X p l e rm_N_waysNow s m args below meth c 3 (MQ below (ra_Qc X Z) args s 0 0 (ra_A X)) (I t) t) : ra_At X p l e rm_N_waysNow s m args below meth c 3 (MQ below (ra_Qc X Z) args s 0 0 (ra_A X)) (b_N_waysNow_42 c0 c1 I Z) 42 :=
  r_aload_n F d_N_waysNow_42 rfl <| r_getI F cg_N (j := 2) (by decide) rfl fl_N_109 d_N_waysNow_43 <| r_if_ne F d_N_waysNow_46 (by decide) (o_N_waysNow_61 h0 h1 F hr hlk hI) (o_N_waysNow_49 h0 h1 F hr hlk hI)
theorem o_N_waysNow_35 {X : ra_X} {p : Program} {l : Launch} {e : Env} {s : State} {m : MethodId} {args : Array Value} {below : List Frame} {meth : Method} {c : Code} {Z : ra_R} {c0 c1 : ra_Sp}  (h0 : ra_MOK l X mi_N_laysMay c0) (h1 : ra_MOK l X mi_N_waysBy c1) (F : ra_Fx X p rm_N_waysNow s m args c prog_13_method_53_code 3 cn_N) (hr : meth.sig.returnType = (some .int)) (hlk : meth.locks = false) {I : Nat → ra_K} (hI : ∀ t ∈ [8], ra_At X p l e rm_N_waysNow s m args below meth c 3 (MQ below (ra_Qc X Z) args s 0 0 (ra_A X)) (I t) t) : ra_At X p l e rm_N_waysNow s m args below meth c 3 (MQ below (ra_Qc X Z) args s 0 0 (ra_A X)) (b_N_waysNow_35 c0 c1 I Z) 35 :=
  r_istore_n F d_N_waysNow_35 rfl (by decide) <| r_iinc F d_N_waysNow_36 (by decide) (by decide) <| r_goto F d_N_waysNow_39 (by decide) (hI 8 (by decide))
theorem o_N_waysNow_34 {X : ra_X} {p : Program} {l : Launch} {e : Env} {s : State} {m : MethodId} {args : Array Value} {below : List Frame} {meth : Method} {c : Code} {Z : ra_R} {c0 c1 : ra_Sp}  (h0 : ra_MOK l X mi_N_laysMay c0) (h1 : ra_MOK l X mi_N_waysBy c1) (F : ra_Fx X p rm_N_waysNow s m args c prog_13_method_53_code 3 cn_N) (hr : meth.sig.returnType = (some .int)) (hlk : meth.locks = false) {I : Nat → ra_K} (hI : ∀ t ∈ [8], ra_At X p l e rm_N_waysNow s m args below meth c 3 (MQ below (ra_Qc X Z) args s 0 0 (ra_A X)) (I t) t) : ra_At X p l e rm_N_waysNow s m args below meth c 3 (MQ below (ra_Qc X Z) args s 0 0 (ra_A X)) (b_N_waysNow_34 c0 c1 I Z) 34 :=
  r_iconst F d_N_waysNow_34 (by decide) <| (o_N_waysNow_35 h0 h1 F hr hlk hI)
theorem o_N_waysNow_30 {X : ra_X} {p : Program} {l : Launch} {e : Env} {s : State} {m : MethodId} {args : Array Value} {below : List Frame} {meth : Method} {c : Code} {Z : ra_R} {c0 c1 : ra_Sp}  (h0 : ra_MOK l X mi_N_laysMay c0) (h1 : ra_MOK l X mi_N_waysBy c1) (F : ra_Fx X p rm_N_waysNow s m args c prog_13_method_53_code 3 cn_N) (hr : meth.sig.returnType = (some .int)) (hlk : meth.locks = false) {I : Nat → ra_K} (hI : ∀ t ∈ [8], ra_At X p l e rm_N_waysNow s m args below meth c 3 (MQ below (ra_Qc X Z) args s 0 0 (ra_A X)) (I t) t) : ra_At X p l e rm_N_waysNow s m args below meth c 3 (MQ below (ra_Qc X Z) args s 0 0 (ra_A X)) (b_N_waysNow_30 c0 c1 I Z) 30 :=
  r_iconst F d_N_waysNow_30 (by decide) <| r_goto F d_N_waysNow_31 (by decide) (o_N_waysNow_35 h0 h1 F hr hlk hI)
theorem o_N_waysNow_20 {X : ra_X} {p : Program} {l : Launch} {e : Env} {s : State} {m : MethodId} {args : Array Value} {below : List Frame} {meth : Method} {c : Code} {Z : ra_R} {c0 c1 : ra_Sp}  (h0 : ra_MOK l X mi_N_laysMay c0) (h1 : ra_MOK l X mi_N_waysBy c1) (F : ra_Fx X p rm_N_waysNow s m args c prog_13_method_53_code 3 cn_N) (hr : meth.sig.returnType = (some .int)) (hlk : meth.locks = false) {I : Nat → ra_K} (hI : ∀ t ∈ [8], ra_At X p l e rm_N_waysNow s m args below meth c 3 (MQ below (ra_Qc X Z) args s 0 0 (ra_A X)) (I t) t) : ra_At X p l e rm_N_waysNow s m args below meth c 3 (MQ below (ra_Qc X Z) args s 0 0 (ra_A X)) (b_N_waysNow_20 c0 c1 I Z) 20 :=
  r_aload_n F d_N_waysNow_20 rfl <| r_getR F cg_N (j := 25) (by decide) rfl fl_N_76 d_N_waysNow_21 <| r_iload_n F d_N_waysNow_24 rfl <| r_iaload F d_N_waysNow_25 <| r_iconst F d_N_waysNow_26 (by decide) <| r_icmp_ne F d_N_waysNow_27 (by decide) (o_N_waysNow_34 h0 h1 F hr hlk hI) (o_N_waysNow_30 h0 h1 F hr hlk hI)
theorem o_N_waysNow_16 {X : ra_X} {p : Program} {l : Launch} {e : Env} {s : State} {m : MethodId} {args : Array Value} {below : List Frame} {meth : Method} {c : Code} {Z : ra_R} {c0 c1 : ra_Sp}  (h0 : ra_MOK l X mi_N_laysMay c0) (h1 : ra_MOK l X mi_N_waysBy c1) (F : ra_Fx X p rm_N_waysNow s m args c prog_13_method_53_code 3 cn_N) (hr : meth.sig.returnType = (some .int)) (hlk : meth.locks = false) {I : Nat → ra_K} (hI : ∀ t ∈ [8], ra_At X p l e rm_N_waysNow s m args below meth c 3 (MQ below (ra_Qc X Z) args s 0 0 (ra_A X)) (I t) t) : ra_At X p l e rm_N_waysNow s m args below meth c 3 (MQ below (ra_Qc X Z) args s 0 0 (ra_A X)) (b_N_waysNow_16 c0 c1 I Z) 16 :=
  r_iload_n F d_N_waysNow_16 rfl <| r_if_ne F d_N_waysNow_17 (by decide) (o_N_waysNow_30 h0 h1 F hr hlk hI) (o_N_waysNow_20 h0 h1 F hr hlk hI)
theorem o_N_waysNow_8 {X : ra_X} {p : Program} {l : Launch} {e : Env} {s : State} {m : MethodId} {args : Array Value} {below : List Frame} {meth : Method} {c : Code} {Z : ra_R} {c0 c1 : ra_Sp}  (h0 : ra_MOK l X mi_N_laysMay c0) (h1 : ra_MOK l X mi_N_waysBy c1) (F : ra_Fx X p rm_N_waysNow s m args c prog_13_method_53_code 3 cn_N) (hr : meth.sig.returnType = (some .int)) (hlk : meth.locks = false) {I : Nat → ra_K} (hI : ∀ t ∈ [8], ra_At X p l e rm_N_waysNow s m args below meth c 3 (MQ below (ra_Qc X Z) args s 0 0 (ra_A X)) (I t) t) : ra_At X p l e rm_N_waysNow s m args below meth c 3 (MQ below (ra_Qc X Z) args s 0 0 (ra_A X)) (b_N_waysNow_8 c0 c1 I Z) 8 :=
  r_iload_n F d_N_waysNow_8 rfl <| r_aload_n F d_N_waysNow_9 rfl <| r_getI F cg_N (j := 22) (by decide) rfl fl_N_203 d_N_waysNow_10 <| r_icmp_ge F d_N_waysNow_13 (by decide) (o_N_waysNow_42 h0 h1 F hr hlk hI) (o_N_waysNow_16 h0 h1 F hr hlk hI)
theorem o_N_waysNow_0 {X : ra_X} {p : Program} {l : Launch} {e : Env} {s : State} {m : MethodId} {args : Array Value} {below : List Frame} {meth : Method} {c : Code} {Z : ra_R} {c0 c1 : ra_Sp}  (h0 : ra_MOK l X mi_N_laysMay c0) (h1 : ra_MOK l X mi_N_waysBy c1) (F : ra_Fx X p rm_N_waysNow s m args c prog_13_method_53_code 3 cn_N) (hr : meth.sig.returnType = (some .int)) (hlk : meth.locks = false) {I : Nat → ra_K} (hI : ∀ t ∈ [8], ra_At X p l e rm_N_waysNow s m args below meth c 3 (MQ below (ra_Qc X Z) args s 0 0 (ra_A X)) (I t) t) : ra_At X p l e rm_N_waysNow s m args below meth c 3 (MQ below (ra_Qc X Z) args s 0 0 (ra_A X)) (b_N_waysNow_0 c0 c1 I Z) 0 :=
  r_aload_n F d_N_waysNow_0 rfl <| r_callV F h0 (co_N_laysMay (by decide +kernel) (by decide +kernel)) ⟨rfl, by decide +kernel⟩ ⟨rfl, by decide⟩ ml_N_206 im_N_laysMay se_N_laysMay d_N_waysNow_1 <| r_iconst F d_N_waysNow_4 (by decide) <| r_istore_n F d_N_waysNow_5 rfl (by decide) <| r_iconst F d_N_waysNow_6 (by decide) <| r_istore_n F d_N_waysNow_7 rfl (by decide) <| (hI 8 (by decide))
theorem g_N_waysNow {l : Launch} {X : ra_X} {c0 c1 : ra_Sp}  (h0 : ra_MOK l X mi_N_laysMay c0) (h1 : ra_MOK l X mi_N_waysBy c1) (sp : ra_Sp) (I : ra_R → List Value → ra_St → Nat → ra_M → ra_K) (ve : ∀ as σ Z, ra_c1 as = true → as.length = 1 → sp as σ Z → b_N_waysNow_0 c0 c1 (ra_I (I Z as σ)) Z (ra_pad 3 as) [] σ) (v8 : ∀ as σ Z, sp as σ Z → ∀ μ L S σ1, I Z as σ 8 μ L S σ1 → b_N_waysNow_8 c0 c1 (ra_J (I Z as σ) μ) Z L S σ1) : ra_MOK l X mi_N_waysNow sp := by
  refine ra_enter (k := fun Z as σ => b_N_waysNow_0 c0 c1 (ra_I (I Z as σ)) Z) cn_N rfl (by decide +kernel) ⟨by decide +kernel, by decide +kernel⟩ (by decide +kernel) ?_ ve
  intro p e s m args below meth c Z as σ hsp F hr hlk
  refine o_N_waysNow_0 h0 h1 F hr hlk (ra_cuts (b := fun t J => if t = 8 then b_N_waysNow_8 c0 c1 J Z else fun _ _ _ => False) ?_ ?_)
  · intro t ht J hJ
    simp only [List.mem_cons, List.not_mem_nil, or_false] at ht
    rcases ht with rfl
    · exact o_N_waysNow_8 h0 h1 F hr hlk hJ
  · intro t ht μ L S σ1 hI
    simp only [List.mem_cons, List.not_mem_nil, or_false] at ht
    rcases ht with rfl
    · exact v8 as σ Z hsp μ L S σ1 hI

theorem d_N_couldOf_0 : decode prog_13_method_54_code 0 = .ok (.aload_n 0, 1) := by decide +kernel
theorem d_N_couldOf_1 : decode prog_13_method_54_code 1 = .ok (.invokevirtual 212, 3) := by decide +kernel
theorem d_N_couldOf_4 : decode prog_13_method_54_code 4 = .ok (.istore_n 2, 1) := by decide +kernel
theorem d_N_couldOf_5 : decode prog_13_method_54_code 5 = .ok (.iconst 0, 1) := by decide +kernel
theorem d_N_couldOf_6 : decode prog_13_method_54_code 6 = .ok (.istore_n 3, 1) := by decide +kernel
theorem d_N_couldOf_7 : decode prog_13_method_54_code 7 = .ok (.iconst 0, 1) := by decide +kernel
theorem d_N_couldOf_8 : decode prog_13_method_54_code 8 = .ok (.istore 4, 2) := by decide +kernel
theorem d_N_couldOf_10 : decode prog_13_method_54_code 10 = .ok (.iload 4, 2) := by decide +kernel
theorem d_N_couldOf_12 : decode prog_13_method_54_code 12 = .ok (.aload_n 0, 1) := by decide +kernel
theorem d_N_couldOf_13 : decode prog_13_method_54_code 13 = .ok (.getfield 109, 3) := by decide +kernel
theorem d_N_couldOf_16 : decode prog_13_method_54_code 16 = .ok (.if_icmp .ge 35, 3) := by decide +kernel
theorem d_N_couldOf_19 : decode prog_13_method_54_code 19 = .ok (.iload_n 1, 1) := by decide +kernel
theorem d_N_couldOf_20 : decode prog_13_method_54_code 20 = .ok (.iconst (-1), 1) := by decide +kernel
theorem d_N_couldOf_21 : decode prog_13_method_54_code 21 = .ok (.if_icmp .eq 30, 3) := by decide +kernel
theorem d_N_couldOf_24 : decode prog_13_method_54_code 24 = .ok (.iload_n 3, 1) := by decide +kernel
theorem d_N_couldOf_25 : decode prog_13_method_54_code 25 = .ok (.aload_n 0, 1) := by decide +kernel
theorem d_N_couldOf_26 : decode prog_13_method_54_code 26 = .ok (.iload_n 1, 1) := by decide +kernel
theorem d_N_couldOf_27 : decode prog_13_method_54_code 27 = .ok (.iload 4, 2) := by decide +kernel
theorem d_N_couldOf_29 : decode prog_13_method_54_code 29 = .ok (.invokevirtual 209, 3) := by decide +kernel
theorem d_N_couldOf_32 : decode prog_13_method_54_code 32 = .ok (.ifCond .le 10, 3) := by decide +kernel
theorem d_N_couldOf_35 : decode prog_13_method_54_code 35 = .ok (.iconst 1, 1) := by decide +kernel
theorem d_N_couldOf_36 : decode prog_13_method_54_code 36 = .ok (.iload 4, 2) := by decide +kernel
theorem d_N_couldOf_38 : decode prog_13_method_54_code 38 = .ok (.ishl, 1) := by decide +kernel
theorem d_N_couldOf_39 : decode prog_13_method_54_code 39 = .ok (.goto 4, 3) := by decide +kernel
theorem d_N_couldOf_42 : decode prog_13_method_54_code 42 = .ok (.iconst 0, 1) := by decide +kernel
theorem d_N_couldOf_43 : decode prog_13_method_54_code 43 = .ok (.ior, 1) := by decide +kernel
theorem d_N_couldOf_44 : decode prog_13_method_54_code 44 = .ok (.istore_n 3, 1) := by decide +kernel
theorem d_N_couldOf_45 : decode prog_13_method_54_code 45 = .ok (.iinc 4 1, 3) := by decide +kernel
theorem d_N_couldOf_48 : decode prog_13_method_54_code 48 = .ok (.goto (-38), 3) := by decide +kernel
theorem d_N_couldOf_51 : decode prog_13_method_54_code 51 = .ok (.iload_n 1, 1) := by decide +kernel
theorem d_N_couldOf_52 : decode prog_13_method_54_code 52 = .ok (.iconst (-1), 1) := by decide +kernel
theorem d_N_couldOf_53 : decode prog_13_method_54_code 53 = .ok (.if_icmp .ne 7, 3) := by decide +kernel
theorem d_N_couldOf_56 : decode prog_13_method_54_code 56 = .ok (.iload_n 2, 1) := by decide +kernel
theorem d_N_couldOf_57 : decode prog_13_method_54_code 57 = .ok (.goto 4, 3) := by decide +kernel
theorem d_N_couldOf_60 : decode prog_13_method_54_code 60 = .ok (.iload_n 3, 1) := by decide +kernel
theorem d_N_couldOf_61 : decode prog_13_method_54_code 61 = .ok (.ireturn, 1) := by decide +kernel
def b_N_couldOf_61 (c0 c1 : ra_Sp) (I : Nat → ra_K) (Z : ra_R) : ra_K := w_ir Z
def b_N_couldOf_60 (c0 c1 : ra_Sp) (I : Nat → ra_K) (Z : ra_R) : ra_K := w_il 3 <| (b_N_couldOf_61 c0 c1 I Z)
def b_N_couldOf_56 (c0 c1 : ra_Sp) (I : Nat → ra_K) (Z : ra_R) : ra_K := w_il 2 <| (b_N_couldOf_61 c0 c1 I Z)
def b_N_couldOf_51 (c0 c1 : ra_Sp) (I : Nat → ra_K) (Z : ra_R) : ra_K := w_il 1 <| w_c (-1) <| w_b2 (fun x y => x = y) (b_N_couldOf_56 c0 c1 I Z) (b_N_couldOf_60 c0 c1 I Z)
def b_N_couldOf_43 (c0 c1 : ra_Sp) (I : Nat → ra_K) (Z : ra_R) : ra_K := w_i2 (fun x y => x ||| y) <| w_is 3 <| w_inc 4 1 <| (I 10)
def b_N_couldOf_42 (c0 c1 : ra_Sp) (I : Nat → ra_K) (Z : ra_R) : ra_K := w_c 0 <| (b_N_couldOf_43 c0 c1 I Z)
def b_N_couldOf_35 (c0 c1 : ra_Sp) (I : Nat → ra_K) (Z : ra_R) : ra_K := w_c 1 <| w_il 4 <| w_i2 (fun x y => x <<< (y &&& 31)) <| (b_N_couldOf_43 c0 c1 I Z)
def b_N_couldOf_24 (c0 c1 : ra_Sp) (I : Nat → ra_K) (Z : ra_R) : ra_K := w_il 3 <| w_al 0 <| w_il 1 <| w_il 4 <| w_cv c1 3 11 <| w_b1 (fun x => x ≤ 0) (b_N_couldOf_42 c0 c1 I Z) (b_N_couldOf_35 c0 c1 I Z)
def b_N_couldOf_19 (c0 c1 : ra_Sp) (I : Nat → ra_K) (Z : ra_R) : ra_K := w_il 1 <| w_c (-1) <| w_b2 (fun x y => x = y) (b_N_couldOf_51 c0 c1 I Z) (b_N_couldOf_24 c0 c1 I Z)
def b_N_couldOf_10 (c0 c1 : ra_Sp) (I : Nat → ra_K) (Z : ra_R) : ra_K := w_il 4 <| w_al 0 <| w_gi 11 2 <| w_b2 (fun x y => y ≤ x) (b_N_couldOf_51 c0 c1 I Z) (b_N_couldOf_19 c0 c1 I Z)
def b_N_couldOf_0 (c0 c1 : ra_Sp) (I : Nat → ra_K) (Z : ra_R) : ra_K := w_al 0 <| w_cv c0 1 11 <| w_is 2 <| w_c 0 <| w_is 3 <| w_c 0 <| w_is 4 <| (I 10)
theorem o_N_couldOf_61 {X : ra_X} {p : Program} {l : Launch} {e : Env} {s : State} {m : MethodId} {args : Array Value} {below : List Frame} {meth : Method} {c : Code} {Z : ra_R} {c0 c1 : ra_Sp}  (h0 : ra_MOK l X mi_N_waysNow c0) (h1 : ra_MOK l X mi_N_waysBy c1) (F : ra_Fx X p rm_N_couldOf s m args c prog_13_method_54_code 5 cn_N) (hr : meth.sig.returnType = (some .int)) (hlk : meth.locks = false) {I : Nat → ra_K} (hI : ∀ t ∈ [10], ra_At X p l e rm_N_couldOf s m args below meth c 5 (MQ below (ra_Qc X Z) args s 0 0 (ra_A X)) (I t) t) : ra_At X p l e rm_N_couldOf s m args below meth c 5 (MQ below (ra_Qc X Z) args s 0 0 (ra_A X)) (b_N_couldOf_61 c0 c1 I Z) 61 :=
  r_ireturn F hr hlk d_N_couldOf_61
theorem o_N_couldOf_60 {X : ra_X} {p : Program} {l : Launch} {e : Env} {s : State} {m : MethodId} {args : Array Value} {below : List Frame} {meth : Method} {c : Code} {Z : ra_R} {c0 c1 : ra_Sp}  (h0 : ra_MOK l X mi_N_waysNow c0) (h1 : ra_MOK l X mi_N_waysBy c1) (F : ra_Fx X p rm_N_couldOf s m args c prog_13_method_54_code 5 cn_N) (hr : meth.sig.returnType = (some .int)) (hlk : meth.locks = false) {I : Nat → ra_K} (hI : ∀ t ∈ [10], ra_At X p l e rm_N_couldOf s m args below meth c 5 (MQ below (ra_Qc X Z) args s 0 0 (ra_A X)) (I t) t) : ra_At X p l e rm_N_couldOf s m args below meth c 5 (MQ below (ra_Qc X Z) args s 0 0 (ra_A X)) (b_N_couldOf_60 c0 c1 I Z) 60 :=
  r_iload_n F d_N_couldOf_60 rfl <| (o_N_couldOf_61 h0 h1 F hr hlk hI)
theorem o_N_couldOf_56 {X : ra_X} {p : Program} {l : Launch} {e : Env} {s : State} {m : MethodId} {args : Array Value} {below : List Frame} {meth : Method} {c : Code} {Z : ra_R} {c0 c1 : ra_Sp}  (h0 : ra_MOK l X mi_N_waysNow c0) (h1 : ra_MOK l X mi_N_waysBy c1) (F : ra_Fx X p rm_N_couldOf s m args c prog_13_method_54_code 5 cn_N) (hr : meth.sig.returnType = (some .int)) (hlk : meth.locks = false) {I : Nat → ra_K} (hI : ∀ t ∈ [10], ra_At X p l e rm_N_couldOf s m args below meth c 5 (MQ below (ra_Qc X Z) args s 0 0 (ra_A X)) (I t) t) : ra_At X p l e rm_N_couldOf s m args below meth c 5 (MQ below (ra_Qc X Z) args s 0 0 (ra_A X)) (b_N_couldOf_56 c0 c1 I Z) 56 :=
  r_iload_n F d_N_couldOf_56 rfl <| r_goto F d_N_couldOf_57 (by decide) (o_N_couldOf_61 h0 h1 F hr hlk hI)
theorem o_N_couldOf_51 {X : ra_X} {p : Program} {l : Launch} {e : Env} {s : State} {m : MethodId} {args : Array Value} {below : List Frame} {meth : Method} {c : Code} {Z : ra_R} {c0 c1 : ra_Sp}  (h0 : ra_MOK l X mi_N_waysNow c0) (h1 : ra_MOK l X mi_N_waysBy c1) (F : ra_Fx X p rm_N_couldOf s m args c prog_13_method_54_code 5 cn_N) (hr : meth.sig.returnType = (some .int)) (hlk : meth.locks = false) {I : Nat → ra_K} (hI : ∀ t ∈ [10], ra_At X p l e rm_N_couldOf s m args below meth c 5 (MQ below (ra_Qc X Z) args s 0 0 (ra_A X)) (I t) t) : ra_At X p l e rm_N_couldOf s m args below meth c 5 (MQ below (ra_Qc X Z) args s 0 0 (ra_A X)) (b_N_couldOf_51 c0 c1 I Z) 51 :=
  r_iload_n F d_N_couldOf_51 rfl <| r_iconst F d_N_couldOf_52 (by decide) <| r_icmp_ne F d_N_couldOf_53 (by decide) (o_N_couldOf_60 h0 h1 F hr hlk hI) (o_N_couldOf_56 h0 h1 F hr hlk hI)
theorem o_N_couldOf_43 {X : ra_X} {p : Program} {l : Launch} {e : Env} {s : State} {m : MethodId} {args : Array Value} {below : List Frame} {meth : Method} {c : Code} {Z : ra_R} {c0 c1 : ra_Sp}  (h0 : ra_MOK l X mi_N_waysNow c0) (h1 : ra_MOK l X mi_N_waysBy c1) (F : ra_Fx X p rm_N_couldOf s m args c prog_13_method_54_code 5 cn_N) (hr : meth.sig.returnType = (some .int)) (hlk : meth.locks = false) {I : Nat → ra_K} (hI : ∀ t ∈ [10], ra_At X p l e rm_N_couldOf s m args below meth c 5 (MQ below (ra_Qc X Z) args s 0 0 (ra_A X)) (I t) t) : ra_At X p l e rm_N_couldOf s m args below meth c 5 (MQ below (ra_Qc X Z) args s 0 0 (ra_A X)) (b_N_couldOf_43 c0 c1 I Z) 43 :=
  r_ior F d_N_couldOf_43 <| r_istore_n F d_N_couldOf_44 rfl (by decide) <| r_iinc F d_N_couldOf_45 (by decide) (by decide) <| r_goto F d_N_couldOf_48 (by decide) (hI 10 (by decide))
theorem o_N_couldOf_42 {X : ra_X} {p : Program} {l : Launch} {e : Env} {s : State} {m : MethodId} {args : Array Value} {below : List Frame} {meth : Method} {c : Code} {Z : ra_R} {c0 c1 : ra_Sp}  (h0 : ra_MOK l X mi_N_waysNow c0) (h1 : ra_MOK l X mi_N_waysBy c1) (F : ra_Fx X p rm_N_couldOf s m args c prog_13_method_54_code 5 cn_N) (hr : meth.sig.returnType = (some .int)) (hlk : meth.locks = false) {I : Nat → ra_K} (hI : ∀ t ∈ [10], ra_At X p l e rm_N_couldOf s m args below meth c 5 (MQ below (ra_Qc X Z) args s 0 0 (ra_A X)) (I t) t) : ra_At X p l e rm_N_couldOf s m args below meth c 5 (MQ below (ra_Qc X Z) args s 0 0 (ra_A X)) (b_N_couldOf_42 c0 c1 I Z) 42 :=
  r_iconst F d_N_couldOf_42 (by decide) <| (o_N_couldOf_43 h0 h1 F hr hlk hI)
theorem o_N_couldOf_35 {X : ra_X} {p : Program} {l : Launch} {e : Env} {s : State} {m : MethodId} {args : Array Value} {below : List Frame} {meth : Method} {c : Code} {Z : ra_R} {c0 c1 : ra_Sp}  (h0 : ra_MOK l X mi_N_waysNow c0) (h1 : ra_MOK l X mi_N_waysBy c1) (F : ra_Fx X p rm_N_couldOf s m args c prog_13_method_54_code 5 cn_N) (hr : meth.sig.returnType = (some .int)) (hlk : meth.locks = false) {I : Nat → ra_K} (hI : ∀ t ∈ [10], ra_At X p l e rm_N_couldOf s m args below meth c 5 (MQ below (ra_Qc X Z) args s 0 0 (ra_A X)) (I t) t) : ra_At X p l e rm_N_couldOf s m args below meth c 5 (MQ below (ra_Qc X Z) args s 0 0 (ra_A X)) (b_N_couldOf_35 c0 c1 I Z) 35 :=
  r_iconst F d_N_couldOf_35 (by decide) <| r_iload F d_N_couldOf_36 <| r_ishl F d_N_couldOf_38 <| r_goto F d_N_couldOf_39 (by decide) (o_N_couldOf_43 h0 h1 F hr hlk hI)
theorem o_N_couldOf_24 {X : ra_X} {p : Program} {l : Launch} {e : Env} {s : State} {m : MethodId} {args : Array Value} {below : List Frame} {meth : Method} {c : Code} {Z : ra_R} {c0 c1 : ra_Sp}  (h0 : ra_MOK l X mi_N_waysNow c0) (h1 : ra_MOK l X mi_N_waysBy c1) (F : ra_Fx X p rm_N_couldOf s m args c prog_13_method_54_code 5 cn_N) (hr : meth.sig.returnType = (some .int)) (hlk : meth.locks = false) {I : Nat → ra_K} (hI : ∀ t ∈ [10], ra_At X p l e rm_N_couldOf s m args below meth c 5 (MQ below (ra_Qc X Z) args s 0 0 (ra_A X)) (I t) t) : ra_At X p l e rm_N_couldOf s m args below meth c 5 (MQ below (ra_Qc X Z) args s 0 0 (ra_A X)) (b_N_couldOf_24 c0 c1 I Z) 24 :=
  r_iload_n F d_N_couldOf_24 rfl <| r_aload_n F d_N_couldOf_25 rfl <| r_iload_n F d_N_couldOf_26 rfl <| r_iload F d_N_couldOf_27 <| r_callV F h1 (co_N_waysBy (by decide +kernel) (by decide +kernel)) ⟨rfl, by decide +kernel⟩ ⟨rfl, by decide⟩ ml_N_209 im_N_waysBy se_N_waysBy d_N_couldOf_29 <| r_if_le F d_N_couldOf_32 (by decide) (o_N_couldOf_42 h0 h1 F hr hlk hI) (o_N_couldOf_35 h0 h1 F hr hlk hI)
theorem o_N_couldOf_19 {X : ra_X} {p : Program} {l : Launch} {e : Env} {s : State} {m : MethodId} {args : Array Value} {below : List Frame} {meth : Method} {c : Code} {Z : ra_R} {c0 c1 : ra_Sp}  (h0 : ra_MOK l X mi_N_waysNow c0) (h1 : ra_MOK l X mi_N_waysBy c1) (F : ra_Fx X p rm_N_couldOf s m args c prog_13_method_54_code 5 cn_N) (hr : meth.sig.returnType = (some .int)) (hlk : meth.locks = false) {I : Nat → ra_K} (hI : ∀ t ∈ [10], ra_At X p l e rm_N_couldOf s m args below meth c 5 (MQ below (ra_Qc X Z) args s 0 0 (ra_A X)) (I t) t) : ra_At X p l e rm_N_couldOf s m args below meth c 5 (MQ below (ra_Qc X Z) args s 0 0 (ra_A X)) (b_N_couldOf_19 c0 c1 I Z) 19 :=
  r_iload_n F d_N_couldOf_19 rfl <| r_iconst F d_N_couldOf_20 (by decide) <| r_icmp_eq F d_N_couldOf_21 (by decide) (o_N_couldOf_51 h0 h1 F hr hlk hI) (o_N_couldOf_24 h0 h1 F hr hlk hI)
theorem o_N_couldOf_10 {X : ra_X} {p : Program} {l : Launch} {e : Env} {s : State} {m : MethodId} {args : Array Value} {below : List Frame} {meth : Method} {c : Code} {Z : ra_R} {c0 c1 : ra_Sp}  (h0 : ra_MOK l X mi_N_waysNow c0) (h1 : ra_MOK l X mi_N_waysBy c1) (F : ra_Fx X p rm_N_couldOf s m args c prog_13_method_54_code 5 cn_N) (hr : meth.sig.returnType = (some .int)) (hlk : meth.locks = false) {I : Nat → ra_K} (hI : ∀ t ∈ [10], ra_At X p l e rm_N_couldOf s m args below meth c 5 (MQ below (ra_Qc X Z) args s 0 0 (ra_A X)) (I t) t) : ra_At X p l e rm_N_couldOf s m args below meth c 5 (MQ below (ra_Qc X Z) args s 0 0 (ra_A X)) (b_N_couldOf_10 c0 c1 I Z) 10 :=
  r_iload F d_N_couldOf_10 <| r_aload_n F d_N_couldOf_12 rfl <| r_getI F cg_N (j := 2) (by decide) rfl fl_N_109 d_N_couldOf_13 <| r_icmp_ge F d_N_couldOf_16 (by decide) (o_N_couldOf_51 h0 h1 F hr hlk hI) (o_N_couldOf_19 h0 h1 F hr hlk hI)
theorem o_N_couldOf_0 {X : ra_X} {p : Program} {l : Launch} {e : Env} {s : State} {m : MethodId} {args : Array Value} {below : List Frame} {meth : Method} {c : Code} {Z : ra_R} {c0 c1 : ra_Sp}  (h0 : ra_MOK l X mi_N_waysNow c0) (h1 : ra_MOK l X mi_N_waysBy c1) (F : ra_Fx X p rm_N_couldOf s m args c prog_13_method_54_code 5 cn_N) (hr : meth.sig.returnType = (some .int)) (hlk : meth.locks = false) {I : Nat → ra_K} (hI : ∀ t ∈ [10], ra_At X p l e rm_N_couldOf s m args below meth c 5 (MQ below (ra_Qc X Z) args s 0 0 (ra_A X)) (I t) t) : ra_At X p l e rm_N_couldOf s m args below meth c 5 (MQ below (ra_Qc X Z) args s 0 0 (ra_A X)) (b_N_couldOf_0 c0 c1 I Z) 0 :=
  r_aload_n F d_N_couldOf_0 rfl <| r_callV F h0 (co_N_waysNow (by decide +kernel) (by decide +kernel)) ⟨rfl, by decide +kernel⟩ ⟨rfl, by decide⟩ ml_N_212 im_N_waysNow se_N_waysNow d_N_couldOf_1 <| r_istore_n F d_N_couldOf_4 rfl (by decide) <| r_iconst F d_N_couldOf_5 (by decide) <| r_istore_n F d_N_couldOf_6 rfl (by decide) <| r_iconst F d_N_couldOf_7 (by decide) <| r_istore F d_N_couldOf_8 (by decide) <| (hI 10 (by decide))
theorem g_N_couldOf {l : Launch} {X : ra_X} {c0 c1 : ra_Sp}  (h0 : ra_MOK l X mi_N_waysNow c0) (h1 : ra_MOK l X mi_N_waysBy c1) (sp : ra_Sp) (I : ra_R → List Value → ra_St → Nat → ra_M → ra_K) (ve : ∀ as σ Z, ra_c1 as = true → as.length = 2 → sp as σ Z → b_N_couldOf_0 c0 c1 (ra_I (I Z as σ)) Z (ra_pad 5 as) [] σ) (v10 : ∀ as σ Z, sp as σ Z → ∀ μ L S σ1, I Z as σ 10 μ L S σ1 → b_N_couldOf_10 c0 c1 (ra_J (I Z as σ) μ) Z L S σ1) : ra_MOK l X mi_N_couldOf sp := by
  refine ra_enter (k := fun Z as σ => b_N_couldOf_0 c0 c1 (ra_I (I Z as σ)) Z) cn_N rfl (by decide +kernel) ⟨by decide +kernel, by decide +kernel⟩ (by decide +kernel) ?_ ve
  intro p e s m args below meth c Z as σ hsp F hr hlk
  refine o_N_couldOf_0 h0 h1 F hr hlk (ra_cuts (b := fun t J => if t = 10 then b_N_couldOf_10 c0 c1 J Z else fun _ _ _ => False) ?_ ?_)
  · intro t ht J hJ
    simp only [List.mem_cons, List.not_mem_nil, or_false] at ht
    rcases ht with rfl
    · exact o_N_couldOf_10 h0 h1 F hr hlk hJ
  · intro t ht μ L S σ1 hI
    simp only [List.mem_cons, List.not_mem_nil, or_false] at ht
    rcases ht with rfl
    · exact v10 as σ Z hsp μ L S σ1 hI

theorem d_N_could_0 : decode prog_13_method_55_code 0 = .ok (.iload_n 1, 1) := by decide +kernel
theorem d_N_could_1 : decode prog_13_method_55_code 1 = .ok (.iconst (-1), 1) := by decide +kernel
theorem d_N_could_2 : decode prog_13_method_55_code 2 = .ok (.if_icmp .eq 11, 3) := by decide +kernel
theorem d_N_could_5 : decode prog_13_method_55_code 5 = .ok (.aload_n 0, 1) := by decide +kernel
theorem d_N_could_6 : decode prog_13_method_55_code 6 = .ok (.iload_n 1, 1) := by decide +kernel
theorem d_N_could_7 : decode prog_13_method_55_code 7 = .ok (.invokevirtual 140, 3) := by decide +kernel
theorem d_N_could_10 : decode prog_13_method_55_code 10 = .ok (.ifCond .eq 11, 3) := by decide +kernel
theorem d_N_could_13 : decode prog_13_method_55_code 13 = .ok (.aload_n 0, 1) := by decide +kernel
theorem d_N_could_14 : decode prog_13_method_55_code 14 = .ok (.iload_n 1, 1) := by decide +kernel
theorem d_N_could_15 : decode prog_13_method_55_code 15 = .ok (.invokevirtual 215, 3) := by decide +kernel
theorem d_N_could_18 : decode prog_13_method_55_code 18 = .ok (.goto 5, 3) := by decide +kernel
theorem d_N_could_21 : decode prog_13_method_55_code 21 = .ok (.bipush (-2), 2) := by decide +kernel
theorem d_N_could_23 : decode prog_13_method_55_code 23 = .ok (.ireturn, 1) := by decide +kernel
def b_N_could_23 (c0 c1 : ra_Sp) (Z : ra_R) : ra_K := w_ir Z
def b_N_could_21 (c0 c1 : ra_Sp) (Z : ra_R) : ra_K := w_c (-2) <| (b_N_could_23 c0 c1 Z)
def b_N_could_13 (c0 c1 : ra_Sp) (Z : ra_R) : ra_K := w_al 0 <| w_il 1 <| w_cv c1 2 11 <| (b_N_could_23 c0 c1 Z)
def b_N_could_5 (c0 c1 : ra_Sp) (Z : ra_R) : ra_K := w_al 0 <| w_il 1 <| w_cv c0 2 11 <| w_b1 (fun x => x = 0) (b_N_could_21 c0 c1 Z) (b_N_could_13 c0 c1 Z)
def b_N_could_0 (c0 c1 : ra_Sp) (Z : ra_R) : ra_K := w_il 1 <| w_c (-1) <| w_b2 (fun x y => x = y) (b_N_could_13 c0 c1 Z) (b_N_could_5 c0 c1 Z)
theorem o_N_could_23 {X : ra_X} {p : Program} {l : Launch} {e : Env} {s : State} {m : MethodId} {args : Array Value} {below : List Frame} {meth : Method} {c : Code} {Z : ra_R} {c0 c1 : ra_Sp}  (h0 : ra_MOK l X mi_N_isHouse c0) (h1 : ra_MOK l X mi_N_couldOf c1) (F : ra_Fx X p rm_N_could s m args c prog_13_method_55_code 2 cn_N) (hr : meth.sig.returnType = (some .int)) (hlk : meth.locks = false) : ra_At X p l e rm_N_could s m args below meth c 2 (MQ below (ra_Qc X Z) args s 0 0 (ra_A X)) (b_N_could_23 c0 c1 Z) 23 :=
  r_ireturn F hr hlk d_N_could_23
theorem o_N_could_21 {X : ra_X} {p : Program} {l : Launch} {e : Env} {s : State} {m : MethodId} {args : Array Value} {below : List Frame} {meth : Method} {c : Code} {Z : ra_R} {c0 c1 : ra_Sp}  (h0 : ra_MOK l X mi_N_isHouse c0) (h1 : ra_MOK l X mi_N_couldOf c1) (F : ra_Fx X p rm_N_could s m args c prog_13_method_55_code 2 cn_N) (hr : meth.sig.returnType = (some .int)) (hlk : meth.locks = false) : ra_At X p l e rm_N_could s m args below meth c 2 (MQ below (ra_Qc X Z) args s 0 0 (ra_A X)) (b_N_could_21 c0 c1 Z) 21 :=
  r_bipush F d_N_could_21 (by decide) <| (o_N_could_23 h0 h1 F hr hlk)
theorem o_N_could_13 {X : ra_X} {p : Program} {l : Launch} {e : Env} {s : State} {m : MethodId} {args : Array Value} {below : List Frame} {meth : Method} {c : Code} {Z : ra_R} {c0 c1 : ra_Sp}  (h0 : ra_MOK l X mi_N_isHouse c0) (h1 : ra_MOK l X mi_N_couldOf c1) (F : ra_Fx X p rm_N_could s m args c prog_13_method_55_code 2 cn_N) (hr : meth.sig.returnType = (some .int)) (hlk : meth.locks = false) : ra_At X p l e rm_N_could s m args below meth c 2 (MQ below (ra_Qc X Z) args s 0 0 (ra_A X)) (b_N_could_13 c0 c1 Z) 13 :=
  r_aload_n F d_N_could_13 rfl <| r_iload_n F d_N_could_14 rfl <| r_callV F h1 (co_N_couldOf (by decide +kernel) (by decide +kernel)) ⟨rfl, by decide +kernel⟩ ⟨rfl, by decide⟩ ml_N_215 im_N_couldOf se_N_couldOf d_N_could_15 <| r_goto F d_N_could_18 (by decide) (o_N_could_23 h0 h1 F hr hlk)
theorem o_N_could_5 {X : ra_X} {p : Program} {l : Launch} {e : Env} {s : State} {m : MethodId} {args : Array Value} {below : List Frame} {meth : Method} {c : Code} {Z : ra_R} {c0 c1 : ra_Sp}  (h0 : ra_MOK l X mi_N_isHouse c0) (h1 : ra_MOK l X mi_N_couldOf c1) (F : ra_Fx X p rm_N_could s m args c prog_13_method_55_code 2 cn_N) (hr : meth.sig.returnType = (some .int)) (hlk : meth.locks = false) : ra_At X p l e rm_N_could s m args below meth c 2 (MQ below (ra_Qc X Z) args s 0 0 (ra_A X)) (b_N_could_5 c0 c1 Z) 5 :=
  r_aload_n F d_N_could_5 rfl <| r_iload_n F d_N_could_6 rfl <| r_callV F h0 (co_N_isHouse (by decide +kernel) (by decide +kernel)) ⟨rfl, by decide +kernel⟩ ⟨rfl, by decide⟩ ml_N_140 im_N_isHouse se_N_isHouse d_N_could_7 <| r_if_eq F d_N_could_10 (by decide) (o_N_could_21 h0 h1 F hr hlk) (o_N_could_13 h0 h1 F hr hlk)
theorem o_N_could_0 {X : ra_X} {p : Program} {l : Launch} {e : Env} {s : State} {m : MethodId} {args : Array Value} {below : List Frame} {meth : Method} {c : Code} {Z : ra_R} {c0 c1 : ra_Sp}  (h0 : ra_MOK l X mi_N_isHouse c0) (h1 : ra_MOK l X mi_N_couldOf c1) (F : ra_Fx X p rm_N_could s m args c prog_13_method_55_code 2 cn_N) (hr : meth.sig.returnType = (some .int)) (hlk : meth.locks = false) : ra_At X p l e rm_N_could s m args below meth c 2 (MQ below (ra_Qc X Z) args s 0 0 (ra_A X)) (b_N_could_0 c0 c1 Z) 0 :=
  r_iload_n F d_N_could_0 rfl <| r_iconst F d_N_could_1 (by decide) <| r_icmp_eq F d_N_could_2 (by decide) (o_N_could_13 h0 h1 F hr hlk) (o_N_could_5 h0 h1 F hr hlk)
theorem g_N_could {l : Launch} {X : ra_X} {c0 c1 : ra_Sp}  (h0 : ra_MOK l X mi_N_isHouse c0) (h1 : ra_MOK l X mi_N_couldOf c1) (sp : ra_Sp) (ve : ∀ as σ Z, ra_c1 as = true → as.length = 2 → sp as σ Z → b_N_could_0 c0 c1 Z (ra_pad 2 as) [] σ) : ra_MOK l X mi_N_could sp := by
  refine ra_enter (k := fun Z as σ => b_N_could_0 c0 c1 Z) cn_N rfl (by decide +kernel) ⟨by decide +kernel, by decide +kernel⟩ (by decide +kernel) ?_ ve
  intro p e s m args below meth c Z as σ hsp F hr hlk
  exact o_N_could_0 h0 h1 F hr hlk

theorem d_N_askOf_0 : decode prog_13_method_56_code 0 = .ok (.aload_n 0, 1) := by decide +kernel
theorem d_N_askOf_1 : decode prog_13_method_56_code 1 = .ok (.invokevirtual 212, 3) := by decide +kernel
theorem d_N_askOf_4 : decode prog_13_method_56_code 4 = .ok (.ifCond .eq 10, 3) := by decide +kernel
theorem d_N_askOf_7 : decode prog_13_method_56_code 7 = .ok (.aload_n 0, 1) := by decide +kernel
theorem d_N_askOf_8 : decode prog_13_method_56_code 8 = .ok (.getfield 109, 3) := by decide +kernel
theorem d_N_askOf_11 : decode prog_13_method_56_code 11 = .ok (.ifCond .ne 6, 3) := by decide +kernel
theorem d_N_askOf_14 : decode prog_13_method_56_code 14 = .ok (.bipush (-3), 2) := by decide +kernel
theorem d_N_askOf_16 : decode prog_13_method_56_code 16 = .ok (.ireturn, 1) := by decide +kernel
theorem d_N_askOf_17 : decode prog_13_method_56_code 17 = .ok (.iconst (-1), 1) := by decide +kernel
theorem d_N_askOf_18 : decode prog_13_method_56_code 18 = .ok (.istore_n 2, 1) := by decide +kernel
theorem d_N_askOf_19 : decode prog_13_method_56_code 19 = .ok (.iconst 0, 1) := by decide +kernel
theorem d_N_askOf_20 : decode prog_13_method_56_code 20 = .ok (.istore_n 3, 1) := by decide +kernel
theorem d_N_askOf_21 : decode prog_13_method_56_code 21 = .ok (.iconst 0, 1) := by decide +kernel
theorem d_N_askOf_22 : decode prog_13_method_56_code 22 = .ok (.istore 4, 2) := by decide +kernel
theorem d_N_askOf_24 : decode prog_13_method_56_code 24 = .ok (.iload 4, 2) := by decide +kernel
theorem d_N_askOf_26 : decode prog_13_method_56_code 26 = .ok (.aload_n 0, 1) := by decide +kernel
theorem d_N_askOf_27 : decode prog_13_method_56_code 27 = .ok (.getfield 109, 3) := by decide +kernel
theorem d_N_askOf_30 : decode prog_13_method_56_code 30 = .ok (.if_icmp .ge 98, 3) := by decide +kernel
theorem d_N_askOf_33 : decode prog_13_method_56_code 33 = .ok (.iconst 0, 1) := by decide +kernel
theorem d_N_askOf_34 : decode prog_13_method_56_code 34 = .ok (.istore 5, 2) := by decide +kernel
theorem d_N_askOf_36 : decode prog_13_method_56_code 36 = .ok (.iconst 0, 1) := by decide +kernel
theorem d_N_askOf_37 : decode prog_13_method_56_code 37 = .ok (.istore 6, 2) := by decide +kernel
theorem d_N_askOf_39 : decode prog_13_method_56_code 39 = .ok (.iload 6, 2) := by decide +kernel
theorem d_N_askOf_41 : decode prog_13_method_56_code 41 = .ok (.aload_n 0, 1) := by decide +kernel
theorem d_N_askOf_42 : decode prog_13_method_56_code 42 = .ok (.getfield 109, 3) := by decide +kernel
theorem d_N_askOf_45 : decode prog_13_method_56_code 45 = .ok (.if_icmp .ge 35, 3) := by decide +kernel
theorem d_N_askOf_48 : decode prog_13_method_56_code 48 = .ok (.aload_n 0, 1) := by decide +kernel
theorem d_N_askOf_49 : decode prog_13_method_56_code 49 = .ok (.iload 4, 2) := by decide +kernel
theorem d_N_askOf_51 : decode prog_13_method_56_code 51 = .ok (.iload 6, 2) := by decide +kernel
theorem d_N_askOf_53 : decode prog_13_method_56_code 53 = .ok (.invokevirtual 209, 3) := by decide +kernel
theorem d_N_askOf_56 : decode prog_13_method_56_code 56 = .ok (.istore 7, 2) := by decide +kernel
theorem d_N_askOf_58 : decode prog_13_method_56_code 58 = .ok (.iload 7, 2) := by decide +kernel
theorem d_N_askOf_60 : decode prog_13_method_56_code 60 = .ok (.iload 5, 2) := by decide +kernel
theorem d_N_askOf_62 : decode prog_13_method_56_code 62 = .ok (.if_icmp .le 8, 3) := by decide +kernel
theorem d_N_askOf_65 : decode prog_13_method_56_code 65 = .ok (.iload 7, 2) := by decide +kernel
theorem d_N_askOf_67 : decode prog_13_method_56_code 67 = .ok (.goto 5, 3) := by decide +kernel
theorem d_N_askOf_70 : decode prog_13_method_56_code 70 = .ok (.iload 5, 2) := by decide +kernel
theorem d_N_askOf_72 : decode prog_13_method_56_code 72 = .ok (.istore 5, 2) := by decide +kernel
theorem d_N_askOf_74 : decode prog_13_method_56_code 74 = .ok (.iinc 6 1, 3) := by decide +kernel
theorem d_N_askOf_77 : decode prog_13_method_56_code 77 = .ok (.goto (-38), 3) := by decide +kernel
theorem d_N_askOf_80 : decode prog_13_method_56_code 80 = .ok (.iload_n 2, 1) := by decide +kernel
theorem d_N_askOf_81 : decode prog_13_method_56_code 81 = .ok (.iconst (-1), 1) := by decide +kernel
theorem d_N_askOf_82 : decode prog_13_method_56_code 82 = .ok (.if_icmp .eq 9, 3) := by decide +kernel
theorem d_N_askOf_85 : decode prog_13_method_56_code 85 = .ok (.iload 5, 2) := by decide +kernel
theorem d_N_askOf_87 : decode prog_13_method_56_code 87 = .ok (.iload_n 3, 1) := by decide +kernel
theorem d_N_askOf_88 : decode prog_13_method_56_code 88 = .ok (.if_icmp .ge 7, 3) := by decide +kernel
theorem d_N_askOf_91 : decode prog_13_method_56_code 91 = .ok (.iconst 1, 1) := by decide +kernel
theorem d_N_askOf_92 : decode prog_13_method_56_code 92 = .ok (.goto 4, 3) := by decide +kernel
theorem d_N_askOf_95 : decode prog_13_method_56_code 95 = .ok (.iconst 0, 1) := by decide +kernel
theorem d_N_askOf_96 : decode prog_13_method_56_code 96 = .ok (.istore 6, 2) := by decide +kernel
theorem d_N_askOf_98 : decode prog_13_method_56_code 98 = .ok (.iload 6, 2) := by decide +kernel
theorem d_N_askOf_100 : decode prog_13_method_56_code 100 = .ok (.ifCond .eq 8, 3) := by decide +kernel
theorem d_N_askOf_103 : decode prog_13_method_56_code 103 = .ok (.iload 4, 2) := by decide +kernel
theorem d_N_askOf_105 : decode prog_13_method_56_code 105 = .ok (.goto 4, 3) := by decide +kernel
theorem d_N_askOf_108 : decode prog_13_method_56_code 108 = .ok (.iload_n 2, 1) := by decide +kernel
theorem d_N_askOf_109 : decode prog_13_method_56_code 109 = .ok (.istore_n 2, 1) := by decide +kernel
theorem d_N_askOf_110 : decode prog_13_method_56_code 110 = .ok (.iload 6, 2) := by decide +kernel
theorem d_N_askOf_112 : decode prog_13_method_56_code 112 = .ok (.ifCond .eq 8, 3) := by decide +kernel
theorem d_N_askOf_115 : decode prog_13_method_56_code 115 = .ok (.iload 5, 2) := by decide +kernel
theorem d_N_askOf_117 : decode prog_13_method_56_code 117 = .ok (.goto 4, 3) := by decide +kernel
theorem d_N_askOf_120 : decode prog_13_method_56_code 120 = .ok (.iload_n 3, 1) := by decide +kernel
theorem d_N_askOf_121 : decode prog_13_method_56_code 121 = .ok (.istore_n 3, 1) := by decide +kernel
theorem d_N_askOf_122 : decode prog_13_method_56_code 122 = .ok (.iinc 4 1, 3) := by decide +kernel
theorem d_N_askOf_125 : decode prog_13_method_56_code 125 = .ok (.goto (-101), 3) := by decide +kernel
theorem d_N_askOf_128 : decode prog_13_method_56_code 128 = .ok (.iload_n 1, 1) := by decide +kernel
theorem d_N_askOf_129 : decode prog_13_method_56_code 129 = .ok (.ifCond .ne 7, 3) := by decide +kernel
theorem d_N_askOf_132 : decode prog_13_method_56_code 132 = .ok (.iload_n 2, 1) := by decide +kernel
theorem d_N_askOf_133 : decode prog_13_method_56_code 133 = .ok (.goto 4, 3) := by decide +kernel
theorem d_N_askOf_136 : decode prog_13_method_56_code 136 = .ok (.iload_n 3, 1) := by decide +kernel
theorem d_N_askOf_137 : decode prog_13_method_56_code 137 = .ok (.ireturn, 1) := by decide +kernel
def b_N_askOf_137 (c0 c1 : ra_Sp) (I : Nat → ra_K) (Z : ra_R) : ra_K := w_ir Z
def b_N_askOf_136 (c0 c1 : ra_Sp) (I : Nat → ra_K) (Z : ra_R) : ra_K := w_il 3 <| (b_N_askOf_137 c0 c1 I Z)
def b_N_askOf_132 (c0 c1 : ra_Sp) (I : Nat → ra_K) (Z : ra_R) : ra_K := w_il 2 <| (b_N_askOf_137 c0 c1 I Z)
def b_N_askOf_128 (c0 c1 : ra_Sp) (I : Nat → ra_K) (Z : ra_R) : ra_K := w_il 1 <| w_b1 (fun x => x = 0) (b_N_askOf_132 c0 c1 I Z) (b_N_askOf_136 c0 c1 I Z)
def b_N_askOf_121 (c0 c1 : ra_Sp) (I : Nat → ra_K) (Z : ra_R) : ra_K := w_is 3 <| w_inc 4 1 <| (I 24)
def b_N_askOf_120 (c0 c1 : ra_Sp) (I : Nat → ra_K) (Z : ra_R) : ra_K := w_il 3 <| (b_N_askOf_121 c0 c1 I Z)
def b_N_askOf_115 (c0 c1 : ra_Sp) (I : Nat → ra_K) (Z : ra_R) : ra_K := w_il 5 <| (b_N_askOf_121 c0 c1 I Z)
def b_N_askOf_109 (c0 c1 : ra_Sp) (I : Nat → ra_K) (Z : ra_R) : ra_K := w_is 2 <| w_il 6 <| w_b1 (fun x => x = 0) (b_N_askOf_120 c0 c1 I Z) (b_N_askOf_115 c0 c1 I Z)
def b_N_askOf_108 (c0 c1 : ra_Sp) (I : Nat → ra_K) (Z : ra_R) : ra_K := w_il 2 <| (b_N_askOf_109 c0 c1 I Z)
def b_N_askOf_103 (c0 c1 : ra_Sp) (I : Nat → ra_K) (Z : ra_R) : ra_K := w_il 4 <| (b_N_askOf_109 c0 c1 I Z)
def b_N_askOf_96 (c0 c1 : ra_Sp) (I : Nat → ra_K) (Z : ra_R) : ra_K := w_is 6 <| w_il 6 <| w_b1 (fun x => x = 0) (b_N_askOf_108 c0 c1 I Z) (b_N_askOf_103 c0 c1 I Z)
def b_N_askOf_95 (c0 c1 : ra_Sp) (I : Nat → ra_K) (Z : ra_R) : ra_K := w_c 0 <| (b_N_askOf_96 c0 c1 I Z)
def b_N_askOf_91 (c0 c1 : ra_Sp) (I : Nat → ra_K) (Z : ra_R) : ra_K := w_c 1 <| (b_N_askOf_96 c0 c1 I Z)
def b_N_askOf_85 (c0 c1 : ra_Sp) (I : Nat → ra_K) (Z : ra_R) : ra_K := w_il 5 <| w_il 3 <| w_b2 (fun x y => y ≤ x) (b_N_askOf_95 c0 c1 I Z) (b_N_askOf_91 c0 c1 I Z)
def b_N_askOf_80 (c0 c1 : ra_Sp) (I : Nat → ra_K) (Z : ra_R) : ra_K := w_il 2 <| w_c (-1) <| w_b2 (fun x y => x = y) (b_N_askOf_91 c0 c1 I Z) (b_N_askOf_85 c0 c1 I Z)
def b_N_askOf_72 (c0 c1 : ra_Sp) (I : Nat → ra_K) (Z : ra_R) : ra_K := w_is 5 <| w_inc 6 1 <| (I 39)
def b_N_askOf_70 (c0 c1 : ra_Sp) (I : Nat → ra_K) (Z : ra_R) : ra_K := w_il 5 <| (b_N_askOf_72 c0 c1 I Z)
def b_N_askOf_65 (c0 c1 : ra_Sp) (I : Nat → ra_K) (Z : ra_R) : ra_K := w_il 7 <| (b_N_askOf_72 c0 c1 I Z)
def b_N_askOf_48 (c0 c1 : ra_Sp) (I : Nat → ra_K) (Z : ra_R) : ra_K := w_al 0 <| w_il 4 <| w_il 6 <| w_cv c1 3 11 <| w_is 7 <| w_il 7 <| w_il 5 <| w_b2 (fun x y => x ≤ y) (b_N_askOf_70 c0 c1 I Z) (b_N_askOf_65 c0 c1 I Z)
def b_N_askOf_39 (c0 c1 : ra_Sp) (I : Nat → ra_K) (Z : ra_R) : ra_K := w_il 6 <| w_al 0 <| w_gi 11 2 <| w_b2 (fun x y => y ≤ x) (b_N_askOf_80 c0 c1 I Z) (b_N_askOf_48 c0 c1 I Z)
def b_N_askOf_33 (c0 c1 : ra_Sp) (I : Nat → ra_K) (Z : ra_R) : ra_K := w_c 0 <| w_is 5 <| w_c 0 <| w_is 6 <| (I 39)
def b_N_askOf_24 (c0 c1 : ra_Sp) (I : Nat → ra_K) (Z : ra_R) : ra_K := w_il 4 <| w_al 0 <| w_gi 11 2 <| w_b2 (fun x y => y ≤ x) (b_N_askOf_128 c0 c1 I Z) (b_N_askOf_33 c0 c1 I Z)
def b_N_askOf_17 (c0 c1 : ra_Sp) (I : Nat → ra_K) (Z : ra_R) : ra_K := w_c (-1) <| w_is 2 <| w_c 0 <| w_is 3 <| w_c 0 <| w_is 4 <| (I 24)
def b_N_askOf_14 (c0 c1 : ra_Sp) (I : Nat → ra_K) (Z : ra_R) : ra_K := w_c (-3) <| w_ir Z
def b_N_askOf_7 (c0 c1 : ra_Sp) (I : Nat → ra_K) (Z : ra_R) : ra_K := w_al 0 <| w_gi 11 2 <| w_b1 (fun x => x = 0) (b_N_askOf_14 c0 c1 I Z) (b_N_askOf_17 c0 c1 I Z)
def b_N_askOf_0 (c0 c1 : ra_Sp) (I : Nat → ra_K) (Z : ra_R) : ra_K := w_al 0 <| w_cv c0 1 11 <| w_b1 (fun x => x = 0) (b_N_askOf_14 c0 c1 I Z) (b_N_askOf_7 c0 c1 I Z)
theorem o_N_askOf_137 {X : ra_X} {p : Program} {l : Launch} {e : Env} {s : State} {m : MethodId} {args : Array Value} {below : List Frame} {meth : Method} {c : Code} {Z : ra_R} {c0 c1 : ra_Sp}  (h0 : ra_MOK l X mi_N_waysNow c0) (h1 : ra_MOK l X mi_N_waysBy c1) (F : ra_Fx X p rm_N_askOf s m args c prog_13_method_56_code 8 cn_N) (hr : meth.sig.returnType = (some .int)) (hlk : meth.locks = false) {I : Nat → ra_K} (hI : ∀ t ∈ [24, 39], ra_At X p l e rm_N_askOf s m args below meth c 8 (MQ below (ra_Qc X Z) args s 0 0 (ra_A X)) (I t) t) : ra_At X p l e rm_N_askOf s m args below meth c 8 (MQ below (ra_Qc X Z) args s 0 0 (ra_A X)) (b_N_askOf_137 c0 c1 I Z) 137 :=
  r_ireturn F hr hlk d_N_askOf_137
theorem o_N_askOf_136 {X : ra_X} {p : Program} {l : Launch} {e : Env} {s : State} {m : MethodId} {args : Array Value} {below : List Frame} {meth : Method} {c : Code} {Z : ra_R} {c0 c1 : ra_Sp}  (h0 : ra_MOK l X mi_N_waysNow c0) (h1 : ra_MOK l X mi_N_waysBy c1) (F : ra_Fx X p rm_N_askOf s m args c prog_13_method_56_code 8 cn_N) (hr : meth.sig.returnType = (some .int)) (hlk : meth.locks = false) {I : Nat → ra_K} (hI : ∀ t ∈ [24, 39], ra_At X p l e rm_N_askOf s m args below meth c 8 (MQ below (ra_Qc X Z) args s 0 0 (ra_A X)) (I t) t) : ra_At X p l e rm_N_askOf s m args below meth c 8 (MQ below (ra_Qc X Z) args s 0 0 (ra_A X)) (b_N_askOf_136 c0 c1 I Z) 136 :=
  r_iload_n F d_N_askOf_136 rfl <| (o_N_askOf_137 h0 h1 F hr hlk hI)
theorem o_N_askOf_132 {X : ra_X} {p : Program} {l : Launch} {e : Env} {s : State} {m : MethodId} {args : Array Value} {below : List Frame} {meth : Method} {c : Code} {Z : ra_R} {c0 c1 : ra_Sp}  (h0 : ra_MOK l X mi_N_waysNow c0) (h1 : ra_MOK l X mi_N_waysBy c1) (F : ra_Fx X p rm_N_askOf s m args c prog_13_method_56_code 8 cn_N) (hr : meth.sig.returnType = (some .int)) (hlk : meth.locks = false) {I : Nat → ra_K} (hI : ∀ t ∈ [24, 39], ra_At X p l e rm_N_askOf s m args below meth c 8 (MQ below (ra_Qc X Z) args s 0 0 (ra_A X)) (I t) t) : ra_At X p l e rm_N_askOf s m args below meth c 8 (MQ below (ra_Qc X Z) args s 0 0 (ra_A X)) (b_N_askOf_132 c0 c1 I Z) 132 :=
  r_iload_n F d_N_askOf_132 rfl <| r_goto F d_N_askOf_133 (by decide) (o_N_askOf_137 h0 h1 F hr hlk hI)
theorem o_N_askOf_128 {X : ra_X} {p : Program} {l : Launch} {e : Env} {s : State} {m : MethodId} {args : Array Value} {below : List Frame} {meth : Method} {c : Code} {Z : ra_R} {c0 c1 : ra_Sp}  (h0 : ra_MOK l X mi_N_waysNow c0) (h1 : ra_MOK l X mi_N_waysBy c1) (F : ra_Fx X p rm_N_askOf s m args c prog_13_method_56_code 8 cn_N) (hr : meth.sig.returnType = (some .int)) (hlk : meth.locks = false) {I : Nat → ra_K} (hI : ∀ t ∈ [24, 39], ra_At X p l e rm_N_askOf s m args below meth c 8 (MQ below (ra_Qc X Z) args s 0 0 (ra_A X)) (I t) t) : ra_At X p l e rm_N_askOf s m args below meth c 8 (MQ below (ra_Qc X Z) args s 0 0 (ra_A X)) (b_N_askOf_128 c0 c1 I Z) 128 :=
  r_iload_n F d_N_askOf_128 rfl <| r_if_ne F d_N_askOf_129 (by decide) (o_N_askOf_136 h0 h1 F hr hlk hI) (o_N_askOf_132 h0 h1 F hr hlk hI)
theorem o_N_askOf_121 {X : ra_X} {p : Program} {l : Launch} {e : Env} {s : State} {m : MethodId} {args : Array Value} {below : List Frame} {meth : Method} {c : Code} {Z : ra_R} {c0 c1 : ra_Sp}  (h0 : ra_MOK l X mi_N_waysNow c0) (h1 : ra_MOK l X mi_N_waysBy c1) (F : ra_Fx X p rm_N_askOf s m args c prog_13_method_56_code 8 cn_N) (hr : meth.sig.returnType = (some .int)) (hlk : meth.locks = false) {I : Nat → ra_K} (hI : ∀ t ∈ [24, 39], ra_At X p l e rm_N_askOf s m args below meth c 8 (MQ below (ra_Qc X Z) args s 0 0 (ra_A X)) (I t) t) : ra_At X p l e rm_N_askOf s m args below meth c 8 (MQ below (ra_Qc X Z) args s 0 0 (ra_A X)) (b_N_askOf_121 c0 c1 I Z) 121 :=
  r_istore_n F d_N_askOf_121 rfl (by decide) <| r_iinc F d_N_askOf_122 (by decide) (by decide) <| r_goto F d_N_askOf_125 (by decide) (hI 24 (by decide))
theorem o_N_askOf_120 {X : ra_X} {p : Program} {l : Launch} {e : Env} {s : State} {m : MethodId} {args : Array Value} {below : List Frame} {meth : Method} {c : Code} {Z : ra_R} {c0 c1 : ra_Sp}  (h0 : ra_MOK l X mi_N_waysNow c0) (h1 : ra_MOK l X mi_N_waysBy c1) (F : ra_Fx X p rm_N_askOf s m args c prog_13_method_56_code 8 cn_N) (hr : meth.sig.returnType = (some .int)) (hlk : meth.locks = false) {I : Nat → ra_K} (hI : ∀ t ∈ [24, 39], ra_At X p l e rm_N_askOf s m args below meth c 8 (MQ below (ra_Qc X Z) args s 0 0 (ra_A X)) (I t) t) : ra_At X p l e rm_N_askOf s m args below meth c 8 (MQ below (ra_Qc X Z) args s 0 0 (ra_A X)) (b_N_askOf_120 c0 c1 I Z) 120 :=
  r_iload_n F d_N_askOf_120 rfl <| (o_N_askOf_121 h0 h1 F hr hlk hI)
theorem o_N_askOf_115 {X : ra_X} {p : Program} {l : Launch} {e : Env} {s : State} {m : MethodId} {args : Array Value} {below : List Frame} {meth : Method} {c : Code} {Z : ra_R} {c0 c1 : ra_Sp}  (h0 : ra_MOK l X mi_N_waysNow c0) (h1 : ra_MOK l X mi_N_waysBy c1) (F : ra_Fx X p rm_N_askOf s m args c prog_13_method_56_code 8 cn_N) (hr : meth.sig.returnType = (some .int)) (hlk : meth.locks = false) {I : Nat → ra_K} (hI : ∀ t ∈ [24, 39], ra_At X p l e rm_N_askOf s m args below meth c 8 (MQ below (ra_Qc X Z) args s 0 0 (ra_A X)) (I t) t) : ra_At X p l e rm_N_askOf s m args below meth c 8 (MQ below (ra_Qc X Z) args s 0 0 (ra_A X)) (b_N_askOf_115 c0 c1 I Z) 115 :=
  r_iload F d_N_askOf_115 <| r_goto F d_N_askOf_117 (by decide) (o_N_askOf_121 h0 h1 F hr hlk hI)
theorem o_N_askOf_109 {X : ra_X} {p : Program} {l : Launch} {e : Env} {s : State} {m : MethodId} {args : Array Value} {below : List Frame} {meth : Method} {c : Code} {Z : ra_R} {c0 c1 : ra_Sp}  (h0 : ra_MOK l X mi_N_waysNow c0) (h1 : ra_MOK l X mi_N_waysBy c1) (F : ra_Fx X p rm_N_askOf s m args c prog_13_method_56_code 8 cn_N) (hr : meth.sig.returnType = (some .int)) (hlk : meth.locks = false) {I : Nat → ra_K} (hI : ∀ t ∈ [24, 39], ra_At X p l e rm_N_askOf s m args below meth c 8 (MQ below (ra_Qc X Z) args s 0 0 (ra_A X)) (I t) t) : ra_At X p l e rm_N_askOf s m args below meth c 8 (MQ below (ra_Qc X Z) args s 0 0 (ra_A X)) (b_N_askOf_109 c0 c1 I Z) 109 :=
  r_istore_n F d_N_askOf_109 rfl (by decide) <| r_iload F d_N_askOf_110 <| r_if_eq F d_N_askOf_112 (by decide) (o_N_askOf_120 h0 h1 F hr hlk hI) (o_N_askOf_115 h0 h1 F hr hlk hI)
theorem o_N_askOf_108 {X : ra_X} {p : Program} {l : Launch} {e : Env} {s : State} {m : MethodId} {args : Array Value} {below : List Frame} {meth : Method} {c : Code} {Z : ra_R} {c0 c1 : ra_Sp}  (h0 : ra_MOK l X mi_N_waysNow c0) (h1 : ra_MOK l X mi_N_waysBy c1) (F : ra_Fx X p rm_N_askOf s m args c prog_13_method_56_code 8 cn_N) (hr : meth.sig.returnType = (some .int)) (hlk : meth.locks = false) {I : Nat → ra_K} (hI : ∀ t ∈ [24, 39], ra_At X p l e rm_N_askOf s m args below meth c 8 (MQ below (ra_Qc X Z) args s 0 0 (ra_A X)) (I t) t) : ra_At X p l e rm_N_askOf s m args below meth c 8 (MQ below (ra_Qc X Z) args s 0 0 (ra_A X)) (b_N_askOf_108 c0 c1 I Z) 108 :=
  r_iload_n F d_N_askOf_108 rfl <| (o_N_askOf_109 h0 h1 F hr hlk hI)
theorem o_N_askOf_103 {X : ra_X} {p : Program} {l : Launch} {e : Env} {s : State} {m : MethodId} {args : Array Value} {below : List Frame} {meth : Method} {c : Code} {Z : ra_R} {c0 c1 : ra_Sp}  (h0 : ra_MOK l X mi_N_waysNow c0) (h1 : ra_MOK l X mi_N_waysBy c1) (F : ra_Fx X p rm_N_askOf s m args c prog_13_method_56_code 8 cn_N) (hr : meth.sig.returnType = (some .int)) (hlk : meth.locks = false) {I : Nat → ra_K} (hI : ∀ t ∈ [24, 39], ra_At X p l e rm_N_askOf s m args below meth c 8 (MQ below (ra_Qc X Z) args s 0 0 (ra_A X)) (I t) t) : ra_At X p l e rm_N_askOf s m args below meth c 8 (MQ below (ra_Qc X Z) args s 0 0 (ra_A X)) (b_N_askOf_103 c0 c1 I Z) 103 :=
  r_iload F d_N_askOf_103 <| r_goto F d_N_askOf_105 (by decide) (o_N_askOf_109 h0 h1 F hr hlk hI)
theorem o_N_askOf_96 {X : ra_X} {p : Program} {l : Launch} {e : Env} {s : State} {m : MethodId} {args : Array Value} {below : List Frame} {meth : Method} {c : Code} {Z : ra_R} {c0 c1 : ra_Sp}  (h0 : ra_MOK l X mi_N_waysNow c0) (h1 : ra_MOK l X mi_N_waysBy c1) (F : ra_Fx X p rm_N_askOf s m args c prog_13_method_56_code 8 cn_N) (hr : meth.sig.returnType = (some .int)) (hlk : meth.locks = false) {I : Nat → ra_K} (hI : ∀ t ∈ [24, 39], ra_At X p l e rm_N_askOf s m args below meth c 8 (MQ below (ra_Qc X Z) args s 0 0 (ra_A X)) (I t) t) : ra_At X p l e rm_N_askOf s m args below meth c 8 (MQ below (ra_Qc X Z) args s 0 0 (ra_A X)) (b_N_askOf_96 c0 c1 I Z) 96 :=
  r_istore F d_N_askOf_96 (by decide) <| r_iload F d_N_askOf_98 <| r_if_eq F d_N_askOf_100 (by decide) (o_N_askOf_108 h0 h1 F hr hlk hI) (o_N_askOf_103 h0 h1 F hr hlk hI)
theorem o_N_askOf_95 {X : ra_X} {p : Program} {l : Launch} {e : Env} {s : State} {m : MethodId} {args : Array Value} {below : List Frame} {meth : Method} {c : Code} {Z : ra_R} {c0 c1 : ra_Sp}  (h0 : ra_MOK l X mi_N_waysNow c0) (h1 : ra_MOK l X mi_N_waysBy c1) (F : ra_Fx X p rm_N_askOf s m args c prog_13_method_56_code 8 cn_N) (hr : meth.sig.returnType = (some .int)) (hlk : meth.locks = false) {I : Nat → ra_K} (hI : ∀ t ∈ [24, 39], ra_At X p l e rm_N_askOf s m args below meth c 8 (MQ below (ra_Qc X Z) args s 0 0 (ra_A X)) (I t) t) : ra_At X p l e rm_N_askOf s m args below meth c 8 (MQ below (ra_Qc X Z) args s 0 0 (ra_A X)) (b_N_askOf_95 c0 c1 I Z) 95 :=
  r_iconst F d_N_askOf_95 (by decide) <| (o_N_askOf_96 h0 h1 F hr hlk hI)
theorem o_N_askOf_91 {X : ra_X} {p : Program} {l : Launch} {e : Env} {s : State} {m : MethodId} {args : Array Value} {below : List Frame} {meth : Method} {c : Code} {Z : ra_R} {c0 c1 : ra_Sp}  (h0 : ra_MOK l X mi_N_waysNow c0) (h1 : ra_MOK l X mi_N_waysBy c1) (F : ra_Fx X p rm_N_askOf s m args c prog_13_method_56_code 8 cn_N) (hr : meth.sig.returnType = (some .int)) (hlk : meth.locks = false) {I : Nat → ra_K} (hI : ∀ t ∈ [24, 39], ra_At X p l e rm_N_askOf s m args below meth c 8 (MQ below (ra_Qc X Z) args s 0 0 (ra_A X)) (I t) t) : ra_At X p l e rm_N_askOf s m args below meth c 8 (MQ below (ra_Qc X Z) args s 0 0 (ra_A X)) (b_N_askOf_91 c0 c1 I Z) 91 :=
  r_iconst F d_N_askOf_91 (by decide) <| r_goto F d_N_askOf_92 (by decide) (o_N_askOf_96 h0 h1 F hr hlk hI)
theorem o_N_askOf_85 {X : ra_X} {p : Program} {l : Launch} {e : Env} {s : State} {m : MethodId} {args : Array Value} {below : List Frame} {meth : Method} {c : Code} {Z : ra_R} {c0 c1 : ra_Sp}  (h0 : ra_MOK l X mi_N_waysNow c0) (h1 : ra_MOK l X mi_N_waysBy c1) (F : ra_Fx X p rm_N_askOf s m args c prog_13_method_56_code 8 cn_N) (hr : meth.sig.returnType = (some .int)) (hlk : meth.locks = false) {I : Nat → ra_K} (hI : ∀ t ∈ [24, 39], ra_At X p l e rm_N_askOf s m args below meth c 8 (MQ below (ra_Qc X Z) args s 0 0 (ra_A X)) (I t) t) : ra_At X p l e rm_N_askOf s m args below meth c 8 (MQ below (ra_Qc X Z) args s 0 0 (ra_A X)) (b_N_askOf_85 c0 c1 I Z) 85 :=
  r_iload F d_N_askOf_85 <| r_iload_n F d_N_askOf_87 rfl <| r_icmp_ge F d_N_askOf_88 (by decide) (o_N_askOf_95 h0 h1 F hr hlk hI) (o_N_askOf_91 h0 h1 F hr hlk hI)
theorem o_N_askOf_80 {X : ra_X} {p : Program} {l : Launch} {e : Env} {s : State} {m : MethodId} {args : Array Value} {below : List Frame} {meth : Method} {c : Code} {Z : ra_R} {c0 c1 : ra_Sp}  (h0 : ra_MOK l X mi_N_waysNow c0) (h1 : ra_MOK l X mi_N_waysBy c1) (F : ra_Fx X p rm_N_askOf s m args c prog_13_method_56_code 8 cn_N) (hr : meth.sig.returnType = (some .int)) (hlk : meth.locks = false) {I : Nat → ra_K} (hI : ∀ t ∈ [24, 39], ra_At X p l e rm_N_askOf s m args below meth c 8 (MQ below (ra_Qc X Z) args s 0 0 (ra_A X)) (I t) t) : ra_At X p l e rm_N_askOf s m args below meth c 8 (MQ below (ra_Qc X Z) args s 0 0 (ra_A X)) (b_N_askOf_80 c0 c1 I Z) 80 :=
  r_iload_n F d_N_askOf_80 rfl <| r_iconst F d_N_askOf_81 (by decide) <| r_icmp_eq F d_N_askOf_82 (by decide) (o_N_askOf_91 h0 h1 F hr hlk hI) (o_N_askOf_85 h0 h1 F hr hlk hI)
theorem o_N_askOf_72 {X : ra_X} {p : Program} {l : Launch} {e : Env} {s : State} {m : MethodId} {args : Array Value} {below : List Frame} {meth : Method} {c : Code} {Z : ra_R} {c0 c1 : ra_Sp}  (h0 : ra_MOK l X mi_N_waysNow c0) (h1 : ra_MOK l X mi_N_waysBy c1) (F : ra_Fx X p rm_N_askOf s m args c prog_13_method_56_code 8 cn_N) (hr : meth.sig.returnType = (some .int)) (hlk : meth.locks = false) {I : Nat → ra_K} (hI : ∀ t ∈ [24, 39], ra_At X p l e rm_N_askOf s m args below meth c 8 (MQ below (ra_Qc X Z) args s 0 0 (ra_A X)) (I t) t) : ra_At X p l e rm_N_askOf s m args below meth c 8 (MQ below (ra_Qc X Z) args s 0 0 (ra_A X)) (b_N_askOf_72 c0 c1 I Z) 72 :=
  r_istore F d_N_askOf_72 (by decide) <| r_iinc F d_N_askOf_74 (by decide) (by decide) <| r_goto F d_N_askOf_77 (by decide) (hI 39 (by decide))
theorem o_N_askOf_70 {X : ra_X} {p : Program} {l : Launch} {e : Env} {s : State} {m : MethodId} {args : Array Value} {below : List Frame} {meth : Method} {c : Code} {Z : ra_R} {c0 c1 : ra_Sp}  (h0 : ra_MOK l X mi_N_waysNow c0) (h1 : ra_MOK l X mi_N_waysBy c1) (F : ra_Fx X p rm_N_askOf s m args c prog_13_method_56_code 8 cn_N) (hr : meth.sig.returnType = (some .int)) (hlk : meth.locks = false) {I : Nat → ra_K} (hI : ∀ t ∈ [24, 39], ra_At X p l e rm_N_askOf s m args below meth c 8 (MQ below (ra_Qc X Z) args s 0 0 (ra_A X)) (I t) t) : ra_At X p l e rm_N_askOf s m args below meth c 8 (MQ below (ra_Qc X Z) args s 0 0 (ra_A X)) (b_N_askOf_70 c0 c1 I Z) 70 :=
  r_iload F d_N_askOf_70 <| (o_N_askOf_72 h0 h1 F hr hlk hI)
theorem o_N_askOf_65 {X : ra_X} {p : Program} {l : Launch} {e : Env} {s : State} {m : MethodId} {args : Array Value} {below : List Frame} {meth : Method} {c : Code} {Z : ra_R} {c0 c1 : ra_Sp}  (h0 : ra_MOK l X mi_N_waysNow c0) (h1 : ra_MOK l X mi_N_waysBy c1) (F : ra_Fx X p rm_N_askOf s m args c prog_13_method_56_code 8 cn_N) (hr : meth.sig.returnType = (some .int)) (hlk : meth.locks = false) {I : Nat → ra_K} (hI : ∀ t ∈ [24, 39], ra_At X p l e rm_N_askOf s m args below meth c 8 (MQ below (ra_Qc X Z) args s 0 0 (ra_A X)) (I t) t) : ra_At X p l e rm_N_askOf s m args below meth c 8 (MQ below (ra_Qc X Z) args s 0 0 (ra_A X)) (b_N_askOf_65 c0 c1 I Z) 65 :=
  r_iload F d_N_askOf_65 <| r_goto F d_N_askOf_67 (by decide) (o_N_askOf_72 h0 h1 F hr hlk hI)
theorem o_N_askOf_48 {X : ra_X} {p : Program} {l : Launch} {e : Env} {s : State} {m : MethodId} {args : Array Value} {below : List Frame} {meth : Method} {c : Code} {Z : ra_R} {c0 c1 : ra_Sp}  (h0 : ra_MOK l X mi_N_waysNow c0) (h1 : ra_MOK l X mi_N_waysBy c1) (F : ra_Fx X p rm_N_askOf s m args c prog_13_method_56_code 8 cn_N) (hr : meth.sig.returnType = (some .int)) (hlk : meth.locks = false) {I : Nat → ra_K} (hI : ∀ t ∈ [24, 39], ra_At X p l e rm_N_askOf s m args below meth c 8 (MQ below (ra_Qc X Z) args s 0 0 (ra_A X)) (I t) t) : ra_At X p l e rm_N_askOf s m args below meth c 8 (MQ below (ra_Qc X Z) args s 0 0 (ra_A X)) (b_N_askOf_48 c0 c1 I Z) 48 :=
  r_aload_n F d_N_askOf_48 rfl <| r_iload F d_N_askOf_49 <| r_iload F d_N_askOf_51 <| r_callV F h1 (co_N_waysBy (by decide +kernel) (by decide +kernel)) ⟨rfl, by decide +kernel⟩ ⟨rfl, by decide⟩ ml_N_209 im_N_waysBy se_N_waysBy d_N_askOf_53 <| r_istore F d_N_askOf_56 (by decide) <| r_iload F d_N_askOf_58 <| r_iload F d_N_askOf_60 <| r_icmp_le F d_N_askOf_62 (by decide) (o_N_askOf_70 h0 h1 F hr hlk hI) (o_N_askOf_65 h0 h1 F hr hlk hI)
theorem o_N_askOf_39 {X : ra_X} {p : Program} {l : Launch} {e : Env} {s : State} {m : MethodId} {args : Array Value} {below : List Frame} {meth : Method} {c : Code} {Z : ra_R} {c0 c1 : ra_Sp}  (h0 : ra_MOK l X mi_N_waysNow c0) (h1 : ra_MOK l X mi_N_waysBy c1) (F : ra_Fx X p rm_N_askOf s m args c prog_13_method_56_code 8 cn_N) (hr : meth.sig.returnType = (some .int)) (hlk : meth.locks = false) {I : Nat → ra_K} (hI : ∀ t ∈ [24, 39], ra_At X p l e rm_N_askOf s m args below meth c 8 (MQ below (ra_Qc X Z) args s 0 0 (ra_A X)) (I t) t) : ra_At X p l e rm_N_askOf s m args below meth c 8 (MQ below (ra_Qc X Z) args s 0 0 (ra_A X)) (b_N_askOf_39 c0 c1 I Z) 39 :=
  r_iload F d_N_askOf_39 <| r_aload_n F d_N_askOf_41 rfl <| r_getI F cg_N (j := 2) (by decide) rfl fl_N_109 d_N_askOf_42 <| r_icmp_ge F d_N_askOf_45 (by decide) (o_N_askOf_80 h0 h1 F hr hlk hI) (o_N_askOf_48 h0 h1 F hr hlk hI)
theorem o_N_askOf_33 {X : ra_X} {p : Program} {l : Launch} {e : Env} {s : State} {m : MethodId} {args : Array Value} {below : List Frame} {meth : Method} {c : Code} {Z : ra_R} {c0 c1 : ra_Sp}  (h0 : ra_MOK l X mi_N_waysNow c0) (h1 : ra_MOK l X mi_N_waysBy c1) (F : ra_Fx X p rm_N_askOf s m args c prog_13_method_56_code 8 cn_N) (hr : meth.sig.returnType = (some .int)) (hlk : meth.locks = false) {I : Nat → ra_K} (hI : ∀ t ∈ [24, 39], ra_At X p l e rm_N_askOf s m args below meth c 8 (MQ below (ra_Qc X Z) args s 0 0 (ra_A X)) (I t) t) : ra_At X p l e rm_N_askOf s m args below meth c 8 (MQ below (ra_Qc X Z) args s 0 0 (ra_A X)) (b_N_askOf_33 c0 c1 I Z) 33 :=
  r_iconst F d_N_askOf_33 (by decide) <| r_istore F d_N_askOf_34 (by decide) <| r_iconst F d_N_askOf_36 (by decide) <| r_istore F d_N_askOf_37 (by decide) <| (hI 39 (by decide))
theorem o_N_askOf_24 {X : ra_X} {p : Program} {l : Launch} {e : Env} {s : State} {m : MethodId} {args : Array Value} {below : List Frame} {meth : Method} {c : Code} {Z : ra_R} {c0 c1 : ra_Sp}  (h0 : ra_MOK l X mi_N_waysNow c0) (h1 : ra_MOK l X mi_N_waysBy c1) (F : ra_Fx X p rm_N_askOf s m args c prog_13_method_56_code 8 cn_N) (hr : meth.sig.returnType = (some .int)) (hlk : meth.locks = false) {I : Nat → ra_K} (hI : ∀ t ∈ [24, 39], ra_At X p l e rm_N_askOf s m args below meth c 8 (MQ below (ra_Qc X Z) args s 0 0 (ra_A X)) (I t) t) : ra_At X p l e rm_N_askOf s m args below meth c 8 (MQ below (ra_Qc X Z) args s 0 0 (ra_A X)) (b_N_askOf_24 c0 c1 I Z) 24 :=
  r_iload F d_N_askOf_24 <| r_aload_n F d_N_askOf_26 rfl <| r_getI F cg_N (j := 2) (by decide) rfl fl_N_109 d_N_askOf_27 <| r_icmp_ge F d_N_askOf_30 (by decide) (o_N_askOf_128 h0 h1 F hr hlk hI) (o_N_askOf_33 h0 h1 F hr hlk hI)
theorem o_N_askOf_17 {X : ra_X} {p : Program} {l : Launch} {e : Env} {s : State} {m : MethodId} {args : Array Value} {below : List Frame} {meth : Method} {c : Code} {Z : ra_R} {c0 c1 : ra_Sp}  (h0 : ra_MOK l X mi_N_waysNow c0) (h1 : ra_MOK l X mi_N_waysBy c1) (F : ra_Fx X p rm_N_askOf s m args c prog_13_method_56_code 8 cn_N) (hr : meth.sig.returnType = (some .int)) (hlk : meth.locks = false) {I : Nat → ra_K} (hI : ∀ t ∈ [24, 39], ra_At X p l e rm_N_askOf s m args below meth c 8 (MQ below (ra_Qc X Z) args s 0 0 (ra_A X)) (I t) t) : ra_At X p l e rm_N_askOf s m args below meth c 8 (MQ below (ra_Qc X Z) args s 0 0 (ra_A X)) (b_N_askOf_17 c0 c1 I Z) 17 :=
  r_iconst F d_N_askOf_17 (by decide) <| r_istore_n F d_N_askOf_18 rfl (by decide) <| r_iconst F d_N_askOf_19 (by decide) <| r_istore_n F d_N_askOf_20 rfl (by decide) <| r_iconst F d_N_askOf_21 (by decide) <| r_istore F d_N_askOf_22 (by decide) <| (hI 24 (by decide))
theorem o_N_askOf_14 {X : ra_X} {p : Program} {l : Launch} {e : Env} {s : State} {m : MethodId} {args : Array Value} {below : List Frame} {meth : Method} {c : Code} {Z : ra_R} {c0 c1 : ra_Sp}  (h0 : ra_MOK l X mi_N_waysNow c0) (h1 : ra_MOK l X mi_N_waysBy c1) (F : ra_Fx X p rm_N_askOf s m args c prog_13_method_56_code 8 cn_N) (hr : meth.sig.returnType = (some .int)) (hlk : meth.locks = false) {I : Nat → ra_K} (hI : ∀ t ∈ [24, 39], ra_At X p l e rm_N_askOf s m args below meth c 8 (MQ below (ra_Qc X Z) args s 0 0 (ra_A X)) (I t) t) : ra_At X p l e rm_N_askOf s m args below meth c 8 (MQ below (ra_Qc X Z) args s 0 0 (ra_A X)) (b_N_askOf_14 c0 c1 I Z) 14 :=
  r_bipush F d_N_askOf_14 (by decide) <| r_ireturn F hr hlk d_N_askOf_16
theorem o_N_askOf_7 {X : ra_X} {p : Program} {l : Launch} {e : Env} {s : State} {m : MethodId} {args : Array Value} {below : List Frame} {meth : Method} {c : Code} {Z : ra_R} {c0 c1 : ra_Sp}  (h0 : ra_MOK l X mi_N_waysNow c0) (h1 : ra_MOK l X mi_N_waysBy c1) (F : ra_Fx X p rm_N_askOf s m args c prog_13_method_56_code 8 cn_N) (hr : meth.sig.returnType = (some .int)) (hlk : meth.locks = false) {I : Nat → ra_K} (hI : ∀ t ∈ [24, 39], ra_At X p l e rm_N_askOf s m args below meth c 8 (MQ below (ra_Qc X Z) args s 0 0 (ra_A X)) (I t) t) : ra_At X p l e rm_N_askOf s m args below meth c 8 (MQ below (ra_Qc X Z) args s 0 0 (ra_A X)) (b_N_askOf_7 c0 c1 I Z) 7 :=
  r_aload_n F d_N_askOf_7 rfl <| r_getI F cg_N (j := 2) (by decide) rfl fl_N_109 d_N_askOf_8 <| r_if_ne F d_N_askOf_11 (by decide) (o_N_askOf_17 h0 h1 F hr hlk hI) (o_N_askOf_14 h0 h1 F hr hlk hI)
theorem o_N_askOf_0 {X : ra_X} {p : Program} {l : Launch} {e : Env} {s : State} {m : MethodId} {args : Array Value} {below : List Frame} {meth : Method} {c : Code} {Z : ra_R} {c0 c1 : ra_Sp}  (h0 : ra_MOK l X mi_N_waysNow c0) (h1 : ra_MOK l X mi_N_waysBy c1) (F : ra_Fx X p rm_N_askOf s m args c prog_13_method_56_code 8 cn_N) (hr : meth.sig.returnType = (some .int)) (hlk : meth.locks = false) {I : Nat → ra_K} (hI : ∀ t ∈ [24, 39], ra_At X p l e rm_N_askOf s m args below meth c 8 (MQ below (ra_Qc X Z) args s 0 0 (ra_A X)) (I t) t) : ra_At X p l e rm_N_askOf s m args below meth c 8 (MQ below (ra_Qc X Z) args s 0 0 (ra_A X)) (b_N_askOf_0 c0 c1 I Z) 0 :=
  r_aload_n F d_N_askOf_0 rfl <| r_callV F h0 (co_N_waysNow (by decide +kernel) (by decide +kernel)) ⟨rfl, by decide +kernel⟩ ⟨rfl, by decide⟩ ml_N_212 im_N_waysNow se_N_waysNow d_N_askOf_1 <| r_if_eq F d_N_askOf_4 (by decide) (o_N_askOf_14 h0 h1 F hr hlk hI) (o_N_askOf_7 h0 h1 F hr hlk hI)
theorem g_N_askOf {l : Launch} {X : ra_X} {c0 c1 : ra_Sp}  (h0 : ra_MOK l X mi_N_waysNow c0) (h1 : ra_MOK l X mi_N_waysBy c1) (sp : ra_Sp) (I : ra_R → List Value → ra_St → Nat → ra_M → ra_K) (ve : ∀ as σ Z, ra_c1 as = true → as.length = 2 → sp as σ Z → b_N_askOf_0 c0 c1 (ra_I (I Z as σ)) Z (ra_pad 8 as) [] σ) (v24 : ∀ as σ Z, sp as σ Z → ∀ μ L S σ1, I Z as σ 24 μ L S σ1 → b_N_askOf_24 c0 c1 (ra_J (I Z as σ) μ) Z L S σ1) (v39 : ∀ as σ Z, sp as σ Z → ∀ μ L S σ1, I Z as σ 39 μ L S σ1 → b_N_askOf_39 c0 c1 (ra_J (I Z as σ) μ) Z L S σ1) : ra_MOK l X mi_N_askOf sp := by
  refine ra_enter (k := fun Z as σ => b_N_askOf_0 c0 c1 (ra_I (I Z as σ)) Z) cn_N rfl (by decide +kernel) ⟨by decide +kernel, by decide +kernel⟩ (by decide +kernel) ?_ ve
  intro p e s m args below meth c Z as σ hsp F hr hlk
  refine o_N_askOf_0 h0 h1 F hr hlk (ra_cuts (b := fun t J => if t = 24 then b_N_askOf_24 c0 c1 J Z else if t = 39 then b_N_askOf_39 c0 c1 J Z else fun _ _ _ => False) ?_ ?_)
  · intro t ht J hJ
    simp only [List.mem_cons, List.not_mem_nil, or_false] at ht
    rcases ht with rfl | rfl
    · exact o_N_askOf_24 h0 h1 F hr hlk hJ
    · exact o_N_askOf_39 h0 h1 F hr hlk hJ
  · intro t ht μ L S σ1 hI
    simp only [List.mem_cons, List.not_mem_nil, or_false] at ht
    rcases ht with rfl | rfl
    · exact v24 as σ Z hsp μ L S σ1 hI
    · exact v39 as σ Z hsp μ L S σ1 hI

theorem d_N_ask_0 : decode prog_13_method_57_code 0 = .ok (.iload_n 1, 1) := by decide +kernel
theorem d_N_ask_1 : decode prog_13_method_57_code 1 = .ok (.iconst 0, 1) := by decide +kernel
theorem d_N_ask_2 : decode prog_13_method_57_code 2 = .ok (.iconst 1, 1) := by decide +kernel
theorem d_N_ask_3 : decode prog_13_method_57_code 3 = .ok (.invokestatic 101, 3) := by decide +kernel
theorem d_N_ask_6 : decode prog_13_method_57_code 6 = .ok (.ifCond .eq 11, 3) := by decide +kernel
theorem d_N_ask_9 : decode prog_13_method_57_code 9 = .ok (.aload_n 0, 1) := by decide +kernel
theorem d_N_ask_10 : decode prog_13_method_57_code 10 = .ok (.iload_n 1, 1) := by decide +kernel
theorem d_N_ask_11 : decode prog_13_method_57_code 11 = .ok (.invokevirtual 218, 3) := by decide +kernel
theorem d_N_ask_14 : decode prog_13_method_57_code 14 = .ok (.goto 5, 3) := by decide +kernel
theorem d_N_ask_17 : decode prog_13_method_57_code 17 = .ok (.bipush (-2), 2) := by decide +kernel
theorem d_N_ask_19 : decode prog_13_method_57_code 19 = .ok (.ireturn, 1) := by decide +kernel
def b_N_ask_19 (c0 c1 : ra_Sp) (Z : ra_R) : ra_K := w_ir Z
def b_N_ask_17 (c0 c1 : ra_Sp) (Z : ra_R) : ra_K := w_c (-2) <| (b_N_ask_19 c0 c1 Z)
def b_N_ask_9 (c0 c1 : ra_Sp) (Z : ra_R) : ra_K := w_al 0 <| w_il 1 <| w_cv c1 2 11 <| (b_N_ask_19 c0 c1 Z)
def b_N_ask_0 (c0 c1 : ra_Sp) (Z : ra_R) : ra_K := w_il 1 <| w_c 0 <| w_c 1 <| w_cs c0 3 <| w_b1 (fun x => x = 0) (b_N_ask_17 c0 c1 Z) (b_N_ask_9 c0 c1 Z)
theorem o_N_ask_19 {X : ra_X} {p : Program} {l : Launch} {e : Env} {s : State} {m : MethodId} {args : Array Value} {below : List Frame} {meth : Method} {c : Code} {Z : ra_R} {c0 c1 : ra_Sp}  (h0 : ra_MOK l X mi_N_in c0) (h1 : ra_MOK l X mi_N_askOf c1) (F : ra_Fx X p rm_N_ask s m args c prog_13_method_57_code 2 cn_N) (hr : meth.sig.returnType = (some .int)) (hlk : meth.locks = false) : ra_At X p l e rm_N_ask s m args below meth c 2 (MQ below (ra_Qc X Z) args s 0 0 (ra_A X)) (b_N_ask_19 c0 c1 Z) 19 :=
  r_ireturn F hr hlk d_N_ask_19
theorem o_N_ask_17 {X : ra_X} {p : Program} {l : Launch} {e : Env} {s : State} {m : MethodId} {args : Array Value} {below : List Frame} {meth : Method} {c : Code} {Z : ra_R} {c0 c1 : ra_Sp}  (h0 : ra_MOK l X mi_N_in c0) (h1 : ra_MOK l X mi_N_askOf c1) (F : ra_Fx X p rm_N_ask s m args c prog_13_method_57_code 2 cn_N) (hr : meth.sig.returnType = (some .int)) (hlk : meth.locks = false) : ra_At X p l e rm_N_ask s m args below meth c 2 (MQ below (ra_Qc X Z) args s 0 0 (ra_A X)) (b_N_ask_17 c0 c1 Z) 17 :=
  r_bipush F d_N_ask_17 (by decide) <| (o_N_ask_19 h0 h1 F hr hlk)
theorem o_N_ask_9 {X : ra_X} {p : Program} {l : Launch} {e : Env} {s : State} {m : MethodId} {args : Array Value} {below : List Frame} {meth : Method} {c : Code} {Z : ra_R} {c0 c1 : ra_Sp}  (h0 : ra_MOK l X mi_N_in c0) (h1 : ra_MOK l X mi_N_askOf c1) (F : ra_Fx X p rm_N_ask s m args c prog_13_method_57_code 2 cn_N) (hr : meth.sig.returnType = (some .int)) (hlk : meth.locks = false) : ra_At X p l e rm_N_ask s m args below meth c 2 (MQ below (ra_Qc X Z) args s 0 0 (ra_A X)) (b_N_ask_9 c0 c1 Z) 9 :=
  r_aload_n F d_N_ask_9 rfl <| r_iload_n F d_N_ask_10 rfl <| r_callV F h1 (co_N_askOf (by decide +kernel) (by decide +kernel)) ⟨rfl, by decide +kernel⟩ ⟨rfl, by decide⟩ ml_N_218 im_N_askOf se_N_askOf d_N_ask_11 <| r_goto F d_N_ask_14 (by decide) (o_N_ask_19 h0 h1 F hr hlk)
theorem o_N_ask_0 {X : ra_X} {p : Program} {l : Launch} {e : Env} {s : State} {m : MethodId} {args : Array Value} {below : List Frame} {meth : Method} {c : Code} {Z : ra_R} {c0 c1 : ra_Sp}  (h0 : ra_MOK l X mi_N_in c0) (h1 : ra_MOK l X mi_N_askOf c1) (F : ra_Fx X p rm_N_ask s m args c prog_13_method_57_code 2 cn_N) (hr : meth.sig.returnType = (some .int)) (hlk : meth.locks = false) : ra_At X p l e rm_N_ask s m args below meth c 2 (MQ below (ra_Qc X Z) args s 0 0 (ra_A X)) (b_N_ask_0 c0 c1 Z) 0 :=
  r_iload_n F d_N_ask_0 rfl <| r_iconst F d_N_ask_1 (by decide) <| r_iconst F d_N_ask_2 (by decide) <| r_callS F h0 (co_N_in (by decide +kernel) (by decide +kernel)) ⟨rfl, by decide +kernel⟩ ml_N_101 st_N_in d_N_ask_3 <| r_if_eq F d_N_ask_6 (by decide) (o_N_ask_17 h0 h1 F hr hlk) (o_N_ask_9 h0 h1 F hr hlk)
theorem g_N_ask {l : Launch} {X : ra_X} {c0 c1 : ra_Sp}  (h0 : ra_MOK l X mi_N_in c0) (h1 : ra_MOK l X mi_N_askOf c1) (sp : ra_Sp) (ve : ∀ as σ Z, ra_c1 as = true → as.length = 2 → sp as σ Z → b_N_ask_0 c0 c1 Z (ra_pad 2 as) [] σ) : ra_MOK l X mi_N_ask sp := by
  refine ra_enter (k := fun Z as σ => b_N_ask_0 c0 c1 Z) cn_N rfl (by decide +kernel) ⟨by decide +kernel, by decide +kernel⟩ (by decide +kernel) ?_ ve
  intro p e s m args below meth c Z as σ hsp F hr hlk
  exact o_N_ask_0 h0 h1 F hr hlk

theorem d_N_stronger_0 : decode prog_13_method_58_code 0 = .ok (.iconst 0, 1) := by decide +kernel
theorem d_N_stronger_1 : decode prog_13_method_58_code 1 = .ok (.istore_n 2, 1) := by decide +kernel
theorem d_N_stronger_2 : decode prog_13_method_58_code 2 = .ok (.iconst 0, 1) := by decide +kernel
theorem d_N_stronger_3 : decode prog_13_method_58_code 3 = .ok (.istore_n 3, 1) := by decide +kernel
theorem d_N_stronger_4 : decode prog_13_method_58_code 4 = .ok (.iload_n 3, 1) := by decide +kernel
theorem d_N_stronger_5 : decode prog_13_method_58_code 5 = .ok (.aload_n 0, 1) := by decide +kernel
theorem d_N_stronger_6 : decode prog_13_method_58_code 6 = .ok (.getfield 147, 3) := by decide +kernel
theorem d_N_stronger_9 : decode prog_13_method_58_code 9 = .ok (.if_icmp .ge 27, 3) := by decide +kernel
theorem d_N_stronger_12 : decode prog_13_method_58_code 12 = .ok (.iload_n 2, 1) := by decide +kernel
theorem d_N_stronger_13 : decode prog_13_method_58_code 13 = .ok (.aload_n 0, 1) := by decide +kernel
theorem d_N_stronger_14 : decode prog_13_method_58_code 14 = .ok (.getfield 28, 3) := by decide +kernel
theorem d_N_stronger_17 : decode prog_13_method_58_code 17 = .ok (.iload_n 3, 1) := by decide +kernel
theorem d_N_stronger_18 : decode prog_13_method_58_code 18 = .ok (.iaload, 1) := by decide +kernel
theorem d_N_stronger_19 : decode prog_13_method_58_code 19 = .ok (.iload_n 1, 1) := by decide +kernel
theorem d_N_stronger_20 : decode prog_13_method_58_code 20 = .ok (.if_icmp .le 7, 3) := by decide +kernel
theorem d_N_stronger_23 : decode prog_13_method_58_code 23 = .ok (.iconst 1, 1) := by decide +kernel
theorem d_N_stronger_24 : decode prog_13_method_58_code 24 = .ok (.goto 4, 3) := by decide +kernel
theorem d_N_stronger_27 : decode prog_13_method_58_code 27 = .ok (.iconst 0, 1) := by decide +kernel
theorem d_N_stronger_28 : decode prog_13_method_58_code 28 = .ok (.iadd, 1) := by decide +kernel
theorem d_N_stronger_29 : decode prog_13_method_58_code 29 = .ok (.istore_n 2, 1) := by decide +kernel
theorem d_N_stronger_30 : decode prog_13_method_58_code 30 = .ok (.iinc 3 1, 3) := by decide +kernel
theorem d_N_stronger_33 : decode prog_13_method_58_code 33 = .ok (.goto (-29), 3) := by decide +kernel
theorem d_N_stronger_36 : decode prog_13_method_58_code 36 = .ok (.iload_n 2, 1) := by decide +kernel
theorem d_N_stronger_37 : decode prog_13_method_58_code 37 = .ok (.ireturn, 1) := by decide +kernel
def b_N_stronger_36 (I : Nat → ra_K) (Z : ra_R) : ra_K := w_il 2 <| w_ir Z
def b_N_stronger_28 (I : Nat → ra_K) (Z : ra_R) : ra_K := w_i2 (fun x y => x + y) <| w_is 2 <| w_inc 3 1 <| (I 4)
def b_N_stronger_27 (I : Nat → ra_K) (Z : ra_R) : ra_K := w_c 0 <| (b_N_stronger_28 I Z)
def b_N_stronger_23 (I : Nat → ra_K) (Z : ra_R) : ra_K := w_c 1 <| (b_N_stronger_28 I Z)
def b_N_stronger_12 (I : Nat → ra_K) (Z : ra_R) : ra_K := w_il 2 <| w_al 0 <| w_gr 11 8 <| w_il 3 <| w_ald <| w_il 1 <| w_b2 (fun x y => x ≤ y) (b_N_stronger_27 I Z) (b_N_stronger_23 I Z)
def b_N_stronger_4 (I : Nat → ra_K) (Z : ra_R) : ra_K := w_il 3 <| w_al 0 <| w_gi 11 7 <| w_b2 (fun x y => y ≤ x) (b_N_stronger_36 I Z) (b_N_stronger_12 I Z)
def b_N_stronger_0 (I : Nat → ra_K) (Z : ra_R) : ra_K := w_c 0 <| w_is 2 <| w_c 0 <| w_is 3 <| (I 4)
theorem o_N_stronger_36 {X : ra_X} {p : Program} {l : Launch} {e : Env} {s : State} {m : MethodId} {args : Array Value} {below : List Frame} {meth : Method} {c : Code} {Z : ra_R}  (F : ra_Fx X p rm_N_stronger s m args c prog_13_method_58_code 4 cn_N) (hr : meth.sig.returnType = (some .int)) (hlk : meth.locks = false) {I : Nat → ra_K} (hI : ∀ t ∈ [4], ra_At X p l e rm_N_stronger s m args below meth c 4 (MQ below (ra_Qc X Z) args s 0 0 (ra_A X)) (I t) t) : ra_At X p l e rm_N_stronger s m args below meth c 4 (MQ below (ra_Qc X Z) args s 0 0 (ra_A X)) (b_N_stronger_36 I Z) 36 :=
  r_iload_n F d_N_stronger_36 rfl <| r_ireturn F hr hlk d_N_stronger_37
theorem o_N_stronger_28 {X : ra_X} {p : Program} {l : Launch} {e : Env} {s : State} {m : MethodId} {args : Array Value} {below : List Frame} {meth : Method} {c : Code} {Z : ra_R}  (F : ra_Fx X p rm_N_stronger s m args c prog_13_method_58_code 4 cn_N) (hr : meth.sig.returnType = (some .int)) (hlk : meth.locks = false) {I : Nat → ra_K} (hI : ∀ t ∈ [4], ra_At X p l e rm_N_stronger s m args below meth c 4 (MQ below (ra_Qc X Z) args s 0 0 (ra_A X)) (I t) t) : ra_At X p l e rm_N_stronger s m args below meth c 4 (MQ below (ra_Qc X Z) args s 0 0 (ra_A X)) (b_N_stronger_28 I Z) 28 :=
  r_iadd F d_N_stronger_28 <| r_istore_n F d_N_stronger_29 rfl (by decide) <| r_iinc F d_N_stronger_30 (by decide) (by decide) <| r_goto F d_N_stronger_33 (by decide) (hI 4 (by decide))
theorem o_N_stronger_27 {X : ra_X} {p : Program} {l : Launch} {e : Env} {s : State} {m : MethodId} {args : Array Value} {below : List Frame} {meth : Method} {c : Code} {Z : ra_R}  (F : ra_Fx X p rm_N_stronger s m args c prog_13_method_58_code 4 cn_N) (hr : meth.sig.returnType = (some .int)) (hlk : meth.locks = false) {I : Nat → ra_K} (hI : ∀ t ∈ [4], ra_At X p l e rm_N_stronger s m args below meth c 4 (MQ below (ra_Qc X Z) args s 0 0 (ra_A X)) (I t) t) : ra_At X p l e rm_N_stronger s m args below meth c 4 (MQ below (ra_Qc X Z) args s 0 0 (ra_A X)) (b_N_stronger_27 I Z) 27 :=
  r_iconst F d_N_stronger_27 (by decide) <| (o_N_stronger_28 F hr hlk hI)
theorem o_N_stronger_23 {X : ra_X} {p : Program} {l : Launch} {e : Env} {s : State} {m : MethodId} {args : Array Value} {below : List Frame} {meth : Method} {c : Code} {Z : ra_R}  (F : ra_Fx X p rm_N_stronger s m args c prog_13_method_58_code 4 cn_N) (hr : meth.sig.returnType = (some .int)) (hlk : meth.locks = false) {I : Nat → ra_K} (hI : ∀ t ∈ [4], ra_At X p l e rm_N_stronger s m args below meth c 4 (MQ below (ra_Qc X Z) args s 0 0 (ra_A X)) (I t) t) : ra_At X p l e rm_N_stronger s m args below meth c 4 (MQ below (ra_Qc X Z) args s 0 0 (ra_A X)) (b_N_stronger_23 I Z) 23 :=
  r_iconst F d_N_stronger_23 (by decide) <| r_goto F d_N_stronger_24 (by decide) (o_N_stronger_28 F hr hlk hI)
theorem o_N_stronger_12 {X : ra_X} {p : Program} {l : Launch} {e : Env} {s : State} {m : MethodId} {args : Array Value} {below : List Frame} {meth : Method} {c : Code} {Z : ra_R}  (F : ra_Fx X p rm_N_stronger s m args c prog_13_method_58_code 4 cn_N) (hr : meth.sig.returnType = (some .int)) (hlk : meth.locks = false) {I : Nat → ra_K} (hI : ∀ t ∈ [4], ra_At X p l e rm_N_stronger s m args below meth c 4 (MQ below (ra_Qc X Z) args s 0 0 (ra_A X)) (I t) t) : ra_At X p l e rm_N_stronger s m args below meth c 4 (MQ below (ra_Qc X Z) args s 0 0 (ra_A X)) (b_N_stronger_12 I Z) 12 :=
  r_iload_n F d_N_stronger_12 rfl <| r_aload_n F d_N_stronger_13 rfl <| r_getR F cg_N (j := 8) (by decide) rfl fl_N_28 d_N_stronger_14 <| r_iload_n F d_N_stronger_17 rfl <| r_iaload F d_N_stronger_18 <| r_iload_n F d_N_stronger_19 rfl <| r_icmp_le F d_N_stronger_20 (by decide) (o_N_stronger_27 F hr hlk hI) (o_N_stronger_23 F hr hlk hI)
theorem o_N_stronger_4 {X : ra_X} {p : Program} {l : Launch} {e : Env} {s : State} {m : MethodId} {args : Array Value} {below : List Frame} {meth : Method} {c : Code} {Z : ra_R}  (F : ra_Fx X p rm_N_stronger s m args c prog_13_method_58_code 4 cn_N) (hr : meth.sig.returnType = (some .int)) (hlk : meth.locks = false) {I : Nat → ra_K} (hI : ∀ t ∈ [4], ra_At X p l e rm_N_stronger s m args below meth c 4 (MQ below (ra_Qc X Z) args s 0 0 (ra_A X)) (I t) t) : ra_At X p l e rm_N_stronger s m args below meth c 4 (MQ below (ra_Qc X Z) args s 0 0 (ra_A X)) (b_N_stronger_4 I Z) 4 :=
  r_iload_n F d_N_stronger_4 rfl <| r_aload_n F d_N_stronger_5 rfl <| r_getI F cg_N (j := 7) (by decide) rfl fl_N_147 d_N_stronger_6 <| r_icmp_ge F d_N_stronger_9 (by decide) (o_N_stronger_36 F hr hlk hI) (o_N_stronger_12 F hr hlk hI)
theorem o_N_stronger_0 {X : ra_X} {p : Program} {l : Launch} {e : Env} {s : State} {m : MethodId} {args : Array Value} {below : List Frame} {meth : Method} {c : Code} {Z : ra_R}  (F : ra_Fx X p rm_N_stronger s m args c prog_13_method_58_code 4 cn_N) (hr : meth.sig.returnType = (some .int)) (hlk : meth.locks = false) {I : Nat → ra_K} (hI : ∀ t ∈ [4], ra_At X p l e rm_N_stronger s m args below meth c 4 (MQ below (ra_Qc X Z) args s 0 0 (ra_A X)) (I t) t) : ra_At X p l e rm_N_stronger s m args below meth c 4 (MQ below (ra_Qc X Z) args s 0 0 (ra_A X)) (b_N_stronger_0 I Z) 0 :=
  r_iconst F d_N_stronger_0 (by decide) <| r_istore_n F d_N_stronger_1 rfl (by decide) <| r_iconst F d_N_stronger_2 (by decide) <| r_istore_n F d_N_stronger_3 rfl (by decide) <| (hI 4 (by decide))
theorem g_N_stronger {l : Launch} {X : ra_X}  (sp : ra_Sp) (I : ra_R → List Value → ra_St → Nat → ra_M → ra_K) (ve : ∀ as σ Z, ra_c1 as = true → as.length = 2 → sp as σ Z → b_N_stronger_0 (ra_I (I Z as σ)) Z (ra_pad 4 as) [] σ) (v4 : ∀ as σ Z, sp as σ Z → ∀ μ L S σ1, I Z as σ 4 μ L S σ1 → b_N_stronger_4 (ra_J (I Z as σ) μ) Z L S σ1) : ra_MOK l X mi_N_stronger sp := by
  refine ra_enter (k := fun Z as σ => b_N_stronger_0 (ra_I (I Z as σ)) Z) cn_N rfl (by decide +kernel) ⟨by decide +kernel, by decide +kernel⟩ (by decide +kernel) ?_ ve
  intro p e s m args below meth c Z as σ hsp F hr hlk
  refine o_N_stronger_0 F hr hlk (ra_cuts (b := fun t J => if t = 4 then b_N_stronger_4 J Z else fun _ _ _ => False) ?_ ?_)
  · intro t ht J hJ
    simp only [List.mem_cons, List.not_mem_nil, or_false] at ht
    rcases ht with rfl
    · exact o_N_stronger_4 F hr hlk hJ
  · intro t ht μ L S σ1 hI
    simp only [List.mem_cons, List.not_mem_nil, or_false] at ht
    rcases ht with rfl
    · exact v4 as σ Z hsp μ L S σ1 hI

theorem d_N_handsOf_0 : decode prog_13_method_59_code 0 = .ok (.aload_n 0, 1) := by decide +kernel
theorem d_N_handsOf_1 : decode prog_13_method_59_code 1 = .ok (.invokevirtual 134, 3) := by decide +kernel
theorem d_N_handsOf_4 : decode prog_13_method_59_code 4 = .ok (.iconst 0, 1) := by decide +kernel
theorem d_N_handsOf_5 : decode prog_13_method_59_code 5 = .ok (.istore_n 3, 1) := by decide +kernel
theorem d_N_handsOf_6 : decode prog_13_method_59_code 6 = .ok (.iload_n 3, 1) := by decide +kernel
theorem d_N_handsOf_7 : decode prog_13_method_59_code 7 = .ok (.aload_n 0, 1) := by decide +kernel
theorem d_N_handsOf_8 : decode prog_13_method_59_code 8 = .ok (.getfield 109, 3) := by decide +kernel
theorem d_N_handsOf_11 : decode prog_13_method_59_code 11 = .ok (.if_icmp .ge 21, 3) := by decide +kernel
theorem d_N_handsOf_14 : decode prog_13_method_59_code 14 = .ok (.aload_n 0, 1) := by decide +kernel
theorem d_N_handsOf_15 : decode prog_13_method_59_code 15 = .ok (.getfield 40, 3) := by decide +kernel
theorem d_N_handsOf_18 : decode prog_13_method_59_code 18 = .ok (.iload_n 3, 1) := by decide +kernel
theorem d_N_handsOf_19 : decode prog_13_method_59_code 19 = .ok (.aload_n 0, 1) := by decide +kernel
theorem d_N_handsOf_20 : decode prog_13_method_59_code 20 = .ok (.getfield 16, 3) := by decide +kernel
theorem d_N_handsOf_23 : decode prog_13_method_59_code 23 = .ok (.iload_n 3, 1) := by decide +kernel
theorem d_N_handsOf_24 : decode prog_13_method_59_code 24 = .ok (.iaload, 1) := by decide +kernel
theorem d_N_handsOf_25 : decode prog_13_method_59_code 25 = .ok (.iastore, 1) := by decide +kernel
theorem d_N_handsOf_26 : decode prog_13_method_59_code 26 = .ok (.iinc 3 1, 3) := by decide +kernel
theorem d_N_handsOf_29 : decode prog_13_method_59_code 29 = .ok (.goto (-23), 3) := by decide +kernel
theorem d_N_handsOf_32 : decode prog_13_method_59_code 32 = .ok (.iconst 0, 1) := by decide +kernel
theorem d_N_handsOf_33 : decode prog_13_method_59_code 33 = .ok (.istore_n 3, 1) := by decide +kernel
theorem d_N_handsOf_34 : decode prog_13_method_59_code 34 = .ok (.iload_n 3, 1) := by decide +kernel
theorem d_N_handsOf_35 : decode prog_13_method_59_code 35 = .ok (.iload_n 1, 1) := by decide +kernel
theorem d_N_handsOf_36 : decode prog_13_method_59_code 36 = .ok (.if_icmp .ge 111, 3) := by decide +kernel
theorem d_N_handsOf_39 : decode prog_13_method_59_code 39 = .ok (.iconst (-1), 1) := by decide +kernel
theorem d_N_handsOf_40 : decode prog_13_method_59_code 40 = .ok (.istore 4, 2) := by decide +kernel
theorem d_N_handsOf_42 : decode prog_13_method_59_code 42 = .ok (.iconst 0, 1) := by decide +kernel
theorem d_N_handsOf_43 : decode prog_13_method_59_code 43 = .ok (.istore 5, 2) := by decide +kernel
theorem d_N_handsOf_45 : decode prog_13_method_59_code 45 = .ok (.iconst 0, 1) := by decide +kernel
theorem d_N_handsOf_46 : decode prog_13_method_59_code 46 = .ok (.istore 6, 2) := by decide +kernel
theorem d_N_handsOf_48 : decode prog_13_method_59_code 48 = .ok (.iload 6, 2) := by decide +kernel
theorem d_N_handsOf_50 : decode prog_13_method_59_code 50 = .ok (.aload_n 0, 1) := by decide +kernel
theorem d_N_handsOf_51 : decode prog_13_method_59_code 51 = .ok (.getfield 109, 3) := by decide +kernel
theorem d_N_handsOf_54 : decode prog_13_method_59_code 54 = .ok (.if_icmp .ge 70, 3) := by decide +kernel
theorem d_N_handsOf_57 : decode prog_13_method_59_code 57 = .ok (.aload_n 0, 1) := by decide +kernel
theorem d_N_handsOf_58 : decode prog_13_method_59_code 58 = .ok (.getfield 40, 3) := by decide +kernel
theorem d_N_handsOf_61 : decode prog_13_method_59_code 61 = .ok (.iload 6, 2) := by decide +kernel
theorem d_N_handsOf_63 : decode prog_13_method_59_code 63 = .ok (.iaload, 1) := by decide +kernel
theorem d_N_handsOf_64 : decode prog_13_method_59_code 64 = .ok (.bipush 9, 2) := by decide +kernel
theorem d_N_handsOf_66 : decode prog_13_method_59_code 66 = .ok (.if_icmp .ge 17, 3) := by decide +kernel
theorem d_N_handsOf_69 : decode prog_13_method_59_code 69 = .ok (.aload_n 0, 1) := by decide +kernel
theorem d_N_handsOf_70 : decode prog_13_method_59_code 70 = .ok (.aload_n 0, 1) := by decide +kernel
theorem d_N_handsOf_71 : decode prog_13_method_59_code 71 = .ok (.getfield 40, 3) := by decide +kernel
theorem d_N_handsOf_74 : decode prog_13_method_59_code 74 = .ok (.iload 6, 2) := by decide +kernel
theorem d_N_handsOf_76 : decode prog_13_method_59_code 76 = .ok (.iaload, 1) := by decide +kernel
theorem d_N_handsOf_77 : decode prog_13_method_59_code 77 = .ok (.invokevirtual 221, 3) := by decide +kernel
theorem d_N_handsOf_80 : decode prog_13_method_59_code 80 = .ok (.goto 4, 3) := by decide +kernel
theorem d_N_handsOf_83 : decode prog_13_method_59_code 83 = .ok (.iconst 0, 1) := by decide +kernel
theorem d_N_handsOf_84 : decode prog_13_method_59_code 84 = .ok (.istore 7, 2) := by decide +kernel
theorem d_N_handsOf_86 : decode prog_13_method_59_code 86 = .ok (.iload 7, 2) := by decide +kernel
theorem d_N_handsOf_88 : decode prog_13_method_59_code 88 = .ok (.iload 5, 2) := by decide +kernel
theorem d_N_handsOf_90 : decode prog_13_method_59_code 90 = .ok (.if_icmp .le 8, 3) := by decide +kernel
theorem d_N_handsOf_93 : decode prog_13_method_59_code 93 = .ok (.iload 6, 2) := by decide +kernel
theorem d_N_handsOf_95 : decode prog_13_method_59_code 95 = .ok (.goto 5, 3) := by decide +kernel
theorem d_N_handsOf_98 : decode prog_13_method_59_code 98 = .ok (.iload 4, 2) := by decide +kernel
theorem d_N_handsOf_100 : decode prog_13_method_59_code 100 = .ok (.istore 4, 2) := by decide +kernel
theorem d_N_handsOf_102 : decode prog_13_method_59_code 102 = .ok (.iload 7, 2) := by decide +kernel
theorem d_N_handsOf_104 : decode prog_13_method_59_code 104 = .ok (.iload 5, 2) := by decide +kernel
theorem d_N_handsOf_106 : decode prog_13_method_59_code 106 = .ok (.if_icmp .le 8, 3) := by decide +kernel
theorem d_N_handsOf_109 : decode prog_13_method_59_code 109 = .ok (.iload 7, 2) := by decide +kernel
theorem d_N_handsOf_111 : decode prog_13_method_59_code 111 = .ok (.goto 5, 3) := by decide +kernel
theorem d_N_handsOf_114 : decode prog_13_method_59_code 114 = .ok (.iload 5, 2) := by decide +kernel
theorem d_N_handsOf_116 : decode prog_13_method_59_code 116 = .ok (.istore 5, 2) := by decide +kernel
theorem d_N_handsOf_118 : decode prog_13_method_59_code 118 = .ok (.iinc 6 1, 3) := by decide +kernel
theorem d_N_handsOf_121 : decode prog_13_method_59_code 121 = .ok (.goto (-73), 3) := by decide +kernel
theorem d_N_handsOf_124 : decode prog_13_method_59_code 124 = .ok (.iload 4, 2) := by decide +kernel
theorem d_N_handsOf_126 : decode prog_13_method_59_code 126 = .ok (.iconst (-1), 1) := by decide +kernel
theorem d_N_handsOf_127 : decode prog_13_method_59_code 127 = .ok (.if_icmp .eq 14, 3) := by decide +kernel
theorem d_N_handsOf_130 : decode prog_13_method_59_code 130 = .ok (.aload_n 0, 1) := by decide +kernel
theorem d_N_handsOf_131 : decode prog_13_method_59_code 131 = .ok (.getfield 40, 3) := by decide +kernel
theorem d_N_handsOf_134 : decode prog_13_method_59_code 134 = .ok (.iload 4, 2) := by decide +kernel
theorem d_N_handsOf_136 : decode prog_13_method_59_code 136 = .ok (.dup2, 1) := by decide +kernel
theorem d_N_handsOf_137 : decode prog_13_method_59_code 137 = .ok (.iaload, 1) := by decide +kernel
theorem d_N_handsOf_138 : decode prog_13_method_59_code 138 = .ok (.iconst 1, 1) := by decide +kernel
theorem d_N_handsOf_139 : decode prog_13_method_59_code 139 = .ok (.iadd, 1) := by decide +kernel
theorem d_N_handsOf_140 : decode prog_13_method_59_code 140 = .ok (.iastore, 1) := by decide +kernel
theorem d_N_handsOf_141 : decode prog_13_method_59_code 141 = .ok (.iinc 3 1, 3) := by decide +kernel
theorem d_N_handsOf_144 : decode prog_13_method_59_code 144 = .ok (.goto (-110), 3) := by decide +kernel
theorem d_N_handsOf_147 : decode prog_13_method_59_code 147 = .ok (.iconst 0, 1) := by decide +kernel
theorem d_N_handsOf_148 : decode prog_13_method_59_code 148 = .ok (.istore_n 3, 1) := by decide +kernel
theorem d_N_handsOf_149 : decode prog_13_method_59_code 149 = .ok (.iconst 0, 1) := by decide +kernel
theorem d_N_handsOf_150 : decode prog_13_method_59_code 150 = .ok (.istore 4, 2) := by decide +kernel
theorem d_N_handsOf_152 : decode prog_13_method_59_code 152 = .ok (.iload 4, 2) := by decide +kernel
theorem d_N_handsOf_154 : decode prog_13_method_59_code 154 = .ok (.aload_n 0, 1) := by decide +kernel
theorem d_N_handsOf_155 : decode prog_13_method_59_code 155 = .ok (.getfield 109, 3) := by decide +kernel
theorem d_N_handsOf_158 : decode prog_13_method_59_code 158 = .ok (.if_icmp .ge 66, 3) := by decide +kernel
theorem d_N_handsOf_161 : decode prog_13_method_59_code 161 = .ok (.iconst 0, 1) := by decide +kernel
theorem d_N_handsOf_162 : decode prog_13_method_59_code 162 = .ok (.istore 5, 2) := by decide +kernel
theorem d_N_handsOf_164 : decode prog_13_method_59_code 164 = .ok (.iload 5, 2) := by decide +kernel
theorem d_N_handsOf_166 : decode prog_13_method_59_code 166 = .ok (.aload_n 0, 1) := by decide +kernel
theorem d_N_handsOf_167 : decode prog_13_method_59_code 167 = .ok (.getfield 147, 3) := by decide +kernel
theorem d_N_handsOf_170 : decode prog_13_method_59_code 170 = .ok (.if_icmp .ge 48, 3) := by decide +kernel
theorem d_N_handsOf_173 : decode prog_13_method_59_code 173 = .ok (.iload_n 3, 1) := by decide +kernel
theorem d_N_handsOf_174 : decode prog_13_method_59_code 174 = .ok (.aload_n 0, 1) := by decide +kernel
theorem d_N_handsOf_175 : decode prog_13_method_59_code 175 = .ok (.getfield 28, 3) := by decide +kernel
theorem d_N_handsOf_178 : decode prog_13_method_59_code 178 = .ok (.iload 5, 2) := by decide +kernel
theorem d_N_handsOf_180 : decode prog_13_method_59_code 180 = .ok (.iaload, 1) := by decide +kernel
theorem d_N_handsOf_181 : decode prog_13_method_59_code 181 = .ok (.aload_n 0, 1) := by decide +kernel
theorem d_N_handsOf_182 : decode prog_13_method_59_code 182 = .ok (.getfield 40, 3) := by decide +kernel
theorem d_N_handsOf_185 : decode prog_13_method_59_code 185 = .ok (.iload 4, 2) := by decide +kernel
theorem d_N_handsOf_187 : decode prog_13_method_59_code 187 = .ok (.iaload, 1) := by decide +kernel
theorem d_N_handsOf_188 : decode prog_13_method_59_code 188 = .ok (.if_icmp .le 21, 3) := by decide +kernel
theorem d_N_handsOf_191 : decode prog_13_method_59_code 191 = .ok (.aload_n 0, 1) := by decide +kernel
theorem d_N_handsOf_192 : decode prog_13_method_59_code 192 = .ok (.getfield 28, 3) := by decide +kernel
theorem d_N_handsOf_195 : decode prog_13_method_59_code 195 = .ok (.iload 5, 2) := by decide +kernel
theorem d_N_handsOf_197 : decode prog_13_method_59_code 197 = .ok (.iaload, 1) := by decide +kernel
theorem d_N_handsOf_198 : decode prog_13_method_59_code 198 = .ok (.aload_n 0, 1) := by decide +kernel
theorem d_N_handsOf_199 : decode prog_13_method_59_code 199 = .ok (.getfield 40, 3) := by decide +kernel
theorem d_N_handsOf_202 : decode prog_13_method_59_code 202 = .ok (.iload 4, 2) := by decide +kernel
theorem d_N_handsOf_204 : decode prog_13_method_59_code 204 = .ok (.iaload, 1) := by decide +kernel
theorem d_N_handsOf_205 : decode prog_13_method_59_code 205 = .ok (.isub, 1) := by decide +kernel
theorem d_N_handsOf_206 : decode prog_13_method_59_code 206 = .ok (.goto 4, 3) := by decide +kernel
theorem d_N_handsOf_209 : decode prog_13_method_59_code 209 = .ok (.iconst 0, 1) := by decide +kernel
theorem d_N_handsOf_210 : decode prog_13_method_59_code 210 = .ok (.iadd, 1) := by decide +kernel
theorem d_N_handsOf_211 : decode prog_13_method_59_code 211 = .ok (.istore_n 3, 1) := by decide +kernel
theorem d_N_handsOf_212 : decode prog_13_method_59_code 212 = .ok (.iinc 5 1, 3) := by decide +kernel
theorem d_N_handsOf_215 : decode prog_13_method_59_code 215 = .ok (.goto (-51), 3) := by decide +kernel
theorem d_N_handsOf_218 : decode prog_13_method_59_code 218 = .ok (.iinc 4 1, 3) := by decide +kernel
theorem d_N_handsOf_221 : decode prog_13_method_59_code 221 = .ok (.goto (-69), 3) := by decide +kernel
theorem d_N_handsOf_224 : decode prog_13_method_59_code 224 = .ok (.iload_n 2, 1) := by decide +kernel
theorem d_N_handsOf_225 : decode prog_13_method_59_code 225 = .ok (.iconst (-1), 1) := by decide +kernel
theorem d_N_handsOf_226 : decode prog_13_method_59_code 226 = .ok (.if_icmp .ne 7, 3) := by decide +kernel
theorem d_N_handsOf_229 : decode prog_13_method_59_code 229 = .ok (.iload_n 3, 1) := by decide +kernel
theorem d_N_handsOf_230 : decode prog_13_method_59_code 230 = .ok (.goto 9, 3) := by decide +kernel
theorem d_N_handsOf_233 : decode prog_13_method_59_code 233 = .ok (.aload_n 0, 1) := by decide +kernel
theorem d_N_handsOf_234 : decode prog_13_method_59_code 234 = .ok (.getfield 40, 3) := by decide +kernel
theorem d_N_handsOf_237 : decode prog_13_method_59_code 237 = .ok (.iload_n 2, 1) := by decide +kernel
theorem d_N_handsOf_238 : decode prog_13_method_59_code 238 = .ok (.iaload, 1) := by decide +kernel
theorem d_N_handsOf_239 : decode prog_13_method_59_code 239 = .ok (.ireturn, 1) := by decide +kernel
def b_N_handsOf_239 (c0 c1 : ra_Sp) (I : Nat → ra_K) (Z : ra_R) : ra_K := w_ir Z
def b_N_handsOf_233 (c0 c1 : ra_Sp) (I : Nat → ra_K) (Z : ra_R) : ra_K := w_al 0 <| w_gr 11 12 <| w_il 2 <| w_ald <| (b_N_handsOf_239 c0 c1 I Z)
def b_N_handsOf_229 (c0 c1 : ra_Sp) (I : Nat → ra_K) (Z : ra_R) : ra_K := w_il 3 <| (b_N_handsOf_239 c0 c1 I Z)
def b_N_handsOf_224 (c0 c1 : ra_Sp) (I : Nat → ra_K) (Z : ra_R) : ra_K := w_il 2 <| w_c (-1) <| w_b2 (fun x y => x = y) (b_N_handsOf_229 c0 c1 I Z) (b_N_handsOf_233 c0 c1 I Z)
def b_N_handsOf_218 (c0 c1 : ra_Sp) (I : Nat → ra_K) (Z : ra_R) : ra_K := w_inc 4 1 <| (I 152)
def b_N_handsOf_210 (c0 c1 : ra_Sp) (I : Nat → ra_K) (Z : ra_R) : ra_K := w_i2 (fun x y => x + y) <| w_is 3 <| w_inc 5 1 <| (I 164)
def b_N_handsOf_209 (c0 c1 : ra_Sp) (I : Nat → ra_K) (Z : ra_R) : ra_K := w_c 0 <| (b_N_handsOf_210 c0 c1 I Z)
def b_N_handsOf_191 (c0 c1 : ra_Sp) (I : Nat → ra_K) (Z : ra_R) : ra_K := w_al 0 <| w_gr 11 8 <| w_il 5 <| w_ald <| w_al 0 <| w_gr 11 12 <| w_il 4 <| w_ald <| w_i2 (fun x y => x - y) <| (b_N_handsOf_210 c0 c1 I Z)
def b_N_handsOf_173 (c0 c1 : ra_Sp) (I : Nat → ra_K) (Z : ra_R) : ra_K := w_il 3 <| w_al 0 <| w_gr 11 8 <| w_il 5 <| w_ald <| w_al 0 <| w_gr 11 12 <| w_il 4 <| w_ald <| w_b2 (fun x y => x ≤ y) (b_N_handsOf_209 c0 c1 I Z) (b_N_handsOf_191 c0 c1 I Z)
def b_N_handsOf_164 (c0 c1 : ra_Sp) (I : Nat → ra_K) (Z : ra_R) : ra_K := w_il 5 <| w_al 0 <| w_gi 11 7 <| w_b2 (fun x y => y ≤ x) (b_N_handsOf_218 c0 c1 I Z) (b_N_handsOf_173 c0 c1 I Z)
def b_N_handsOf_161 (c0 c1 : ra_Sp) (I : Nat → ra_K) (Z : ra_R) : ra_K := w_c 0 <| w_is 5 <| (I 164)
def b_N_handsOf_152 (c0 c1 : ra_Sp) (I : Nat → ra_K) (Z : ra_R) : ra_K := w_il 4 <| w_al 0 <| w_gi 11 2 <| w_b2 (fun x y => y ≤ x) (b_N_handsOf_224 c0 c1 I Z) (b_N_handsOf_161 c0 c1 I Z)
def b_N_handsOf_147 (c0 c1 : ra_Sp) (I : Nat → ra_K) (Z : ra_R) : ra_K := w_c 0 <| w_is 3 <| w_c 0 <| w_is 4 <| (I 152)
def b_N_handsOf_141 (c0 c1 : ra_Sp) (I : Nat → ra_K) (Z : ra_R) : ra_K := w_inc 3 1 <| (I 34)
def b_N_handsOf_130 (c0 c1 : ra_Sp) (I : Nat → ra_K) (Z : ra_R) : ra_K := w_al 0 <| w_gr 11 12 <| w_il 4 <| w_dup2 <| w_ald <| w_c 1 <| w_i2 (fun x y => x + y) <| w_ast <| (b_N_handsOf_141 c0 c1 I Z)
def b_N_handsOf_124 (c0 c1 : ra_Sp) (I : Nat → ra_K) (Z : ra_R) : ra_K := w_il 4 <| w_c (-1) <| w_b2 (fun x y => x = y) (b_N_handsOf_141 c0 c1 I Z) (b_N_handsOf_130 c0 c1 I Z)
def b_N_handsOf_116 (c0 c1 : ra_Sp) (I : Nat → ra_K) (Z : ra_R) : ra_K := w_is 5 <| w_inc 6 1 <| (I 48)
def b_N_handsOf_114 (c0 c1 : ra_Sp) (I : Nat → ra_K) (Z : ra_R) : ra_K := w_il 5 <| (b_N_handsOf_116 c0 c1 I Z)
def b_N_handsOf_109 (c0 c1 : ra_Sp) (I : Nat → ra_K) (Z : ra_R) : ra_K := w_il 7 <| (b_N_handsOf_116 c0 c1 I Z)
def b_N_handsOf_100 (c0 c1 : ra_Sp) (I : Nat → ra_K) (Z : ra_R) : ra_K := w_is 4 <| w_il 7 <| w_il 5 <| w_b2 (fun x y => x ≤ y) (b_N_handsOf_114 c0 c1 I Z) (b_N_handsOf_109 c0 c1 I Z)
def b_N_handsOf_98 (c0 c1 : ra_Sp) (I : Nat → ra_K) (Z : ra_R) : ra_K := w_il 4 <| (b_N_handsOf_100 c0 c1 I Z)
def b_N_handsOf_93 (c0 c1 : ra_Sp) (I : Nat → ra_K) (Z : ra_R) : ra_K := w_il 6 <| (b_N_handsOf_100 c0 c1 I Z)
def b_N_handsOf_84 (c0 c1 : ra_Sp) (I : Nat → ra_K) (Z : ra_R) : ra_K := w_is 7 <| w_il 7 <| w_il 5 <| w_b2 (fun x y => x ≤ y) (b_N_handsOf_98 c0 c1 I Z) (b_N_handsOf_93 c0 c1 I Z)
def b_N_handsOf_83 (c0 c1 : ra_Sp) (I : Nat → ra_K) (Z : ra_R) : ra_K := w_c 0 <| (b_N_handsOf_84 c0 c1 I Z)
def b_N_handsOf_69 (c0 c1 : ra_Sp) (I : Nat → ra_K) (Z : ra_R) : ra_K := w_al 0 <| w_al 0 <| w_gr 11 12 <| w_il 6 <| w_ald <| w_cv c1 2 11 <| (b_N_handsOf_84 c0 c1 I Z)
def b_N_handsOf_57 (c0 c1 : ra_Sp) (I : Nat → ra_K) (Z : ra_R) : ra_K := w_al 0 <| w_gr 11 12 <| w_il 6 <| w_ald <| w_c 9 <| w_b2 (fun x y => y ≤ x) (b_N_handsOf_83 c0 c1 I Z) (b_N_handsOf_69 c0 c1 I Z)
def b_N_handsOf_48 (c0 c1 : ra_Sp) (I : Nat → ra_K) (Z : ra_R) : ra_K := w_il 6 <| w_al 0 <| w_gi 11 2 <| w_b2 (fun x y => y ≤ x) (b_N_handsOf_124 c0 c1 I Z) (b_N_handsOf_57 c0 c1 I Z)
def b_N_handsOf_39 (c0 c1 : ra_Sp) (I : Nat → ra_K) (Z : ra_R) : ra_K := w_c (-1) <| w_is 4 <| w_c 0 <| w_is 5 <| w_c 0 <| w_is 6 <| (I 48)
def b_N_handsOf_34 (c0 c1 : ra_Sp) (I : Nat → ra_K) (Z : ra_R) : ra_K := w_il 3 <| w_il 1 <| w_b2 (fun x y => y ≤ x) (b_N_handsOf_147 c0 c1 I Z) (b_N_handsOf_39 c0 c1 I Z)
def b_N_handsOf_32 (c0 c1 : ra_Sp) (I : Nat → ra_K) (Z : ra_R) : ra_K := w_c 0 <| w_is 3 <| (I 34)
def b_N_handsOf_14 (c0 c1 : ra_Sp) (I : Nat → ra_K) (Z : ra_R) : ra_K := w_al 0 <| w_gr 11 12 <| w_il 3 <| w_al 0 <| w_gr 11 3 <| w_il 3 <| w_ald <| w_ast <| w_inc 3 1 <| (I 6)
def b_N_handsOf_6 (c0 c1 : ra_Sp) (I : Nat → ra_K) (Z : ra_R) : ra_K := w_il 3 <| w_al 0 <| w_gi 11 2 <| w_b2 (fun x y => y ≤ x) (b_N_handsOf_32 c0 c1 I Z) (b_N_handsOf_14 c0 c1 I Z)
def b_N_handsOf_0 (c0 c1 : ra_Sp) (I : Nat → ra_K) (Z : ra_R) : ra_K := w_al 0 <| w_cv c0 1 11 <| w_c 0 <| w_is 3 <| (I 6)
theorem o_N_handsOf_239 {X : ra_X} {p : Program} {l : Launch} {e : Env} {s : State} {m : MethodId} {args : Array Value} {below : List Frame} {meth : Method} {c : Code} {Z : ra_R} {c0 c1 : ra_Sp}  (h0 : ra_MOK l X mi_N_reads c0) (h1 : ra_MOK l X mi_N_stronger c1) (F : ra_Fx X p rm_N_handsOf s m args c prog_13_method_59_code 8 cn_N) (hr : meth.sig.returnType = (some .int)) (hlk : meth.locks = false) {I : Nat → ra_K} (hI : ∀ t ∈ [6, 34, 48, 152, 164], ra_At X p l e rm_N_handsOf s m args below meth c 8 (MQ below (ra_Qc X Z) args s 0 0 (ra_A X)) (I t) t) : ra_At X p l e rm_N_handsOf s m args below meth c 8 (MQ below (ra_Qc X Z) args s 0 0 (ra_A X)) (b_N_handsOf_239 c0 c1 I Z) 239 :=
  r_ireturn F hr hlk d_N_handsOf_239
theorem o_N_handsOf_233 {X : ra_X} {p : Program} {l : Launch} {e : Env} {s : State} {m : MethodId} {args : Array Value} {below : List Frame} {meth : Method} {c : Code} {Z : ra_R} {c0 c1 : ra_Sp}  (h0 : ra_MOK l X mi_N_reads c0) (h1 : ra_MOK l X mi_N_stronger c1) (F : ra_Fx X p rm_N_handsOf s m args c prog_13_method_59_code 8 cn_N) (hr : meth.sig.returnType = (some .int)) (hlk : meth.locks = false) {I : Nat → ra_K} (hI : ∀ t ∈ [6, 34, 48, 152, 164], ra_At X p l e rm_N_handsOf s m args below meth c 8 (MQ below (ra_Qc X Z) args s 0 0 (ra_A X)) (I t) t) : ra_At X p l e rm_N_handsOf s m args below meth c 8 (MQ below (ra_Qc X Z) args s 0 0 (ra_A X)) (b_N_handsOf_233 c0 c1 I Z) 233 :=
  r_aload_n F d_N_handsOf_233 rfl <| r_getR F cg_N (j := 12) (by decide) rfl fl_N_40 d_N_handsOf_234 <| r_iload_n F d_N_handsOf_237 rfl <| r_iaload F d_N_handsOf_238 <| (o_N_handsOf_239 h0 h1 F hr hlk hI)
theorem o_N_handsOf_229 {X : ra_X} {p : Program} {l : Launch} {e : Env} {s : State} {m : MethodId} {args : Array Value} {below : List Frame} {meth : Method} {c : Code} {Z : ra_R} {c0 c1 : ra_Sp}  (h0 : ra_MOK l X mi_N_reads c0) (h1 : ra_MOK l X mi_N_stronger c1) (F : ra_Fx X p rm_N_handsOf s m args c prog_13_method_59_code 8 cn_N) (hr : meth.sig.returnType = (some .int)) (hlk : meth.locks = false) {I : Nat → ra_K} (hI : ∀ t ∈ [6, 34, 48, 152, 164], ra_At X p l e rm_N_handsOf s m args below meth c 8 (MQ below (ra_Qc X Z) args s 0 0 (ra_A X)) (I t) t) : ra_At X p l e rm_N_handsOf s m args below meth c 8 (MQ below (ra_Qc X Z) args s 0 0 (ra_A X)) (b_N_handsOf_229 c0 c1 I Z) 229 :=
  r_iload_n F d_N_handsOf_229 rfl <| r_goto F d_N_handsOf_230 (by decide) (o_N_handsOf_239 h0 h1 F hr hlk hI)
theorem o_N_handsOf_224 {X : ra_X} {p : Program} {l : Launch} {e : Env} {s : State} {m : MethodId} {args : Array Value} {below : List Frame} {meth : Method} {c : Code} {Z : ra_R} {c0 c1 : ra_Sp}  (h0 : ra_MOK l X mi_N_reads c0) (h1 : ra_MOK l X mi_N_stronger c1) (F : ra_Fx X p rm_N_handsOf s m args c prog_13_method_59_code 8 cn_N) (hr : meth.sig.returnType = (some .int)) (hlk : meth.locks = false) {I : Nat → ra_K} (hI : ∀ t ∈ [6, 34, 48, 152, 164], ra_At X p l e rm_N_handsOf s m args below meth c 8 (MQ below (ra_Qc X Z) args s 0 0 (ra_A X)) (I t) t) : ra_At X p l e rm_N_handsOf s m args below meth c 8 (MQ below (ra_Qc X Z) args s 0 0 (ra_A X)) (b_N_handsOf_224 c0 c1 I Z) 224 :=
  r_iload_n F d_N_handsOf_224 rfl <| r_iconst F d_N_handsOf_225 (by decide) <| r_icmp_ne F d_N_handsOf_226 (by decide) (o_N_handsOf_233 h0 h1 F hr hlk hI) (o_N_handsOf_229 h0 h1 F hr hlk hI)
theorem o_N_handsOf_218 {X : ra_X} {p : Program} {l : Launch} {e : Env} {s : State} {m : MethodId} {args : Array Value} {below : List Frame} {meth : Method} {c : Code} {Z : ra_R} {c0 c1 : ra_Sp}  (h0 : ra_MOK l X mi_N_reads c0) (h1 : ra_MOK l X mi_N_stronger c1) (F : ra_Fx X p rm_N_handsOf s m args c prog_13_method_59_code 8 cn_N) (hr : meth.sig.returnType = (some .int)) (hlk : meth.locks = false) {I : Nat → ra_K} (hI : ∀ t ∈ [6, 34, 48, 152, 164], ra_At X p l e rm_N_handsOf s m args below meth c 8 (MQ below (ra_Qc X Z) args s 0 0 (ra_A X)) (I t) t) : ra_At X p l e rm_N_handsOf s m args below meth c 8 (MQ below (ra_Qc X Z) args s 0 0 (ra_A X)) (b_N_handsOf_218 c0 c1 I Z) 218 :=
  r_iinc F d_N_handsOf_218 (by decide) (by decide) <| r_goto F d_N_handsOf_221 (by decide) (hI 152 (by decide))
theorem o_N_handsOf_210 {X : ra_X} {p : Program} {l : Launch} {e : Env} {s : State} {m : MethodId} {args : Array Value} {below : List Frame} {meth : Method} {c : Code} {Z : ra_R} {c0 c1 : ra_Sp}  (h0 : ra_MOK l X mi_N_reads c0) (h1 : ra_MOK l X mi_N_stronger c1) (F : ra_Fx X p rm_N_handsOf s m args c prog_13_method_59_code 8 cn_N) (hr : meth.sig.returnType = (some .int)) (hlk : meth.locks = false) {I : Nat → ra_K} (hI : ∀ t ∈ [6, 34, 48, 152, 164], ra_At X p l e rm_N_handsOf s m args below meth c 8 (MQ below (ra_Qc X Z) args s 0 0 (ra_A X)) (I t) t) : ra_At X p l e rm_N_handsOf s m args below meth c 8 (MQ below (ra_Qc X Z) args s 0 0 (ra_A X)) (b_N_handsOf_210 c0 c1 I Z) 210 :=
  r_iadd F d_N_handsOf_210 <| r_istore_n F d_N_handsOf_211 rfl (by decide) <| r_iinc F d_N_handsOf_212 (by decide) (by decide) <| r_goto F d_N_handsOf_215 (by decide) (hI 164 (by decide))
theorem o_N_handsOf_209 {X : ra_X} {p : Program} {l : Launch} {e : Env} {s : State} {m : MethodId} {args : Array Value} {below : List Frame} {meth : Method} {c : Code} {Z : ra_R} {c0 c1 : ra_Sp}  (h0 : ra_MOK l X mi_N_reads c0) (h1 : ra_MOK l X mi_N_stronger c1) (F : ra_Fx X p rm_N_handsOf s m args c prog_13_method_59_code 8 cn_N) (hr : meth.sig.returnType = (some .int)) (hlk : meth.locks = false) {I : Nat → ra_K} (hI : ∀ t ∈ [6, 34, 48, 152, 164], ra_At X p l e rm_N_handsOf s m args below meth c 8 (MQ below (ra_Qc X Z) args s 0 0 (ra_A X)) (I t) t) : ra_At X p l e rm_N_handsOf s m args below meth c 8 (MQ below (ra_Qc X Z) args s 0 0 (ra_A X)) (b_N_handsOf_209 c0 c1 I Z) 209 :=
  r_iconst F d_N_handsOf_209 (by decide) <| (o_N_handsOf_210 h0 h1 F hr hlk hI)
theorem o_N_handsOf_191 {X : ra_X} {p : Program} {l : Launch} {e : Env} {s : State} {m : MethodId} {args : Array Value} {below : List Frame} {meth : Method} {c : Code} {Z : ra_R} {c0 c1 : ra_Sp}  (h0 : ra_MOK l X mi_N_reads c0) (h1 : ra_MOK l X mi_N_stronger c1) (F : ra_Fx X p rm_N_handsOf s m args c prog_13_method_59_code 8 cn_N) (hr : meth.sig.returnType = (some .int)) (hlk : meth.locks = false) {I : Nat → ra_K} (hI : ∀ t ∈ [6, 34, 48, 152, 164], ra_At X p l e rm_N_handsOf s m args below meth c 8 (MQ below (ra_Qc X Z) args s 0 0 (ra_A X)) (I t) t) : ra_At X p l e rm_N_handsOf s m args below meth c 8 (MQ below (ra_Qc X Z) args s 0 0 (ra_A X)) (b_N_handsOf_191 c0 c1 I Z) 191 :=
  r_aload_n F d_N_handsOf_191 rfl <| r_getR F cg_N (j := 8) (by decide) rfl fl_N_28 d_N_handsOf_192 <| r_iload F d_N_handsOf_195 <| r_iaload F d_N_handsOf_197 <| r_aload_n F d_N_handsOf_198 rfl <| r_getR F cg_N (j := 12) (by decide) rfl fl_N_40 d_N_handsOf_199 <| r_iload F d_N_handsOf_202 <| r_iaload F d_N_handsOf_204 <| r_isub F d_N_handsOf_205 <| r_goto F d_N_handsOf_206 (by decide) (o_N_handsOf_210 h0 h1 F hr hlk hI)
theorem o_N_handsOf_173 {X : ra_X} {p : Program} {l : Launch} {e : Env} {s : State} {m : MethodId} {args : Array Value} {below : List Frame} {meth : Method} {c : Code} {Z : ra_R} {c0 c1 : ra_Sp}  (h0 : ra_MOK l X mi_N_reads c0) (h1 : ra_MOK l X mi_N_stronger c1) (F : ra_Fx X p rm_N_handsOf s m args c prog_13_method_59_code 8 cn_N) (hr : meth.sig.returnType = (some .int)) (hlk : meth.locks = false) {I : Nat → ra_K} (hI : ∀ t ∈ [6, 34, 48, 152, 164], ra_At X p l e rm_N_handsOf s m args below meth c 8 (MQ below (ra_Qc X Z) args s 0 0 (ra_A X)) (I t) t) : ra_At X p l e rm_N_handsOf s m args below meth c 8 (MQ below (ra_Qc X Z) args s 0 0 (ra_A X)) (b_N_handsOf_173 c0 c1 I Z) 173 :=
  r_iload_n F d_N_handsOf_173 rfl <| r_aload_n F d_N_handsOf_174 rfl <| r_getR F cg_N (j := 8) (by decide) rfl fl_N_28 d_N_handsOf_175 <| r_iload F d_N_handsOf_178 <| r_iaload F d_N_handsOf_180 <| r_aload_n F d_N_handsOf_181 rfl <| r_getR F cg_N (j := 12) (by decide) rfl fl_N_40 d_N_handsOf_182 <| r_iload F d_N_handsOf_185 <| r_iaload F d_N_handsOf_187 <| r_icmp_le F d_N_handsOf_188 (by decide) (o_N_handsOf_209 h0 h1 F hr hlk hI) (o_N_handsOf_191 h0 h1 F hr hlk hI)
theorem o_N_handsOf_164 {X : ra_X} {p : Program} {l : Launch} {e : Env} {s : State} {m : MethodId} {args : Array Value} {below : List Frame} {meth : Method} {c : Code} {Z : ra_R} {c0 c1 : ra_Sp}  (h0 : ra_MOK l X mi_N_reads c0) (h1 : ra_MOK l X mi_N_stronger c1) (F : ra_Fx X p rm_N_handsOf s m args c prog_13_method_59_code 8 cn_N) (hr : meth.sig.returnType = (some .int)) (hlk : meth.locks = false) {I : Nat → ra_K} (hI : ∀ t ∈ [6, 34, 48, 152, 164], ra_At X p l e rm_N_handsOf s m args below meth c 8 (MQ below (ra_Qc X Z) args s 0 0 (ra_A X)) (I t) t) : ra_At X p l e rm_N_handsOf s m args below meth c 8 (MQ below (ra_Qc X Z) args s 0 0 (ra_A X)) (b_N_handsOf_164 c0 c1 I Z) 164 :=
  r_iload F d_N_handsOf_164 <| r_aload_n F d_N_handsOf_166 rfl <| r_getI F cg_N (j := 7) (by decide) rfl fl_N_147 d_N_handsOf_167 <| r_icmp_ge F d_N_handsOf_170 (by decide) (o_N_handsOf_218 h0 h1 F hr hlk hI) (o_N_handsOf_173 h0 h1 F hr hlk hI)
theorem o_N_handsOf_161 {X : ra_X} {p : Program} {l : Launch} {e : Env} {s : State} {m : MethodId} {args : Array Value} {below : List Frame} {meth : Method} {c : Code} {Z : ra_R} {c0 c1 : ra_Sp}  (h0 : ra_MOK l X mi_N_reads c0) (h1 : ra_MOK l X mi_N_stronger c1) (F : ra_Fx X p rm_N_handsOf s m args c prog_13_method_59_code 8 cn_N) (hr : meth.sig.returnType = (some .int)) (hlk : meth.locks = false) {I : Nat → ra_K} (hI : ∀ t ∈ [6, 34, 48, 152, 164], ra_At X p l e rm_N_handsOf s m args below meth c 8 (MQ below (ra_Qc X Z) args s 0 0 (ra_A X)) (I t) t) : ra_At X p l e rm_N_handsOf s m args below meth c 8 (MQ below (ra_Qc X Z) args s 0 0 (ra_A X)) (b_N_handsOf_161 c0 c1 I Z) 161 :=
  r_iconst F d_N_handsOf_161 (by decide) <| r_istore F d_N_handsOf_162 (by decide) <| (hI 164 (by decide))
theorem o_N_handsOf_152 {X : ra_X} {p : Program} {l : Launch} {e : Env} {s : State} {m : MethodId} {args : Array Value} {below : List Frame} {meth : Method} {c : Code} {Z : ra_R} {c0 c1 : ra_Sp}  (h0 : ra_MOK l X mi_N_reads c0) (h1 : ra_MOK l X mi_N_stronger c1) (F : ra_Fx X p rm_N_handsOf s m args c prog_13_method_59_code 8 cn_N) (hr : meth.sig.returnType = (some .int)) (hlk : meth.locks = false) {I : Nat → ra_K} (hI : ∀ t ∈ [6, 34, 48, 152, 164], ra_At X p l e rm_N_handsOf s m args below meth c 8 (MQ below (ra_Qc X Z) args s 0 0 (ra_A X)) (I t) t) : ra_At X p l e rm_N_handsOf s m args below meth c 8 (MQ below (ra_Qc X Z) args s 0 0 (ra_A X)) (b_N_handsOf_152 c0 c1 I Z) 152 :=
  r_iload F d_N_handsOf_152 <| r_aload_n F d_N_handsOf_154 rfl <| r_getI F cg_N (j := 2) (by decide) rfl fl_N_109 d_N_handsOf_155 <| r_icmp_ge F d_N_handsOf_158 (by decide) (o_N_handsOf_224 h0 h1 F hr hlk hI) (o_N_handsOf_161 h0 h1 F hr hlk hI)
theorem o_N_handsOf_147 {X : ra_X} {p : Program} {l : Launch} {e : Env} {s : State} {m : MethodId} {args : Array Value} {below : List Frame} {meth : Method} {c : Code} {Z : ra_R} {c0 c1 : ra_Sp}  (h0 : ra_MOK l X mi_N_reads c0) (h1 : ra_MOK l X mi_N_stronger c1) (F : ra_Fx X p rm_N_handsOf s m args c prog_13_method_59_code 8 cn_N) (hr : meth.sig.returnType = (some .int)) (hlk : meth.locks = false) {I : Nat → ra_K} (hI : ∀ t ∈ [6, 34, 48, 152, 164], ra_At X p l e rm_N_handsOf s m args below meth c 8 (MQ below (ra_Qc X Z) args s 0 0 (ra_A X)) (I t) t) : ra_At X p l e rm_N_handsOf s m args below meth c 8 (MQ below (ra_Qc X Z) args s 0 0 (ra_A X)) (b_N_handsOf_147 c0 c1 I Z) 147 :=
  r_iconst F d_N_handsOf_147 (by decide) <| r_istore_n F d_N_handsOf_148 rfl (by decide) <| r_iconst F d_N_handsOf_149 (by decide) <| r_istore F d_N_handsOf_150 (by decide) <| (hI 152 (by decide))
theorem o_N_handsOf_141 {X : ra_X} {p : Program} {l : Launch} {e : Env} {s : State} {m : MethodId} {args : Array Value} {below : List Frame} {meth : Method} {c : Code} {Z : ra_R} {c0 c1 : ra_Sp}  (h0 : ra_MOK l X mi_N_reads c0) (h1 : ra_MOK l X mi_N_stronger c1) (F : ra_Fx X p rm_N_handsOf s m args c prog_13_method_59_code 8 cn_N) (hr : meth.sig.returnType = (some .int)) (hlk : meth.locks = false) {I : Nat → ra_K} (hI : ∀ t ∈ [6, 34, 48, 152, 164], ra_At X p l e rm_N_handsOf s m args below meth c 8 (MQ below (ra_Qc X Z) args s 0 0 (ra_A X)) (I t) t) : ra_At X p l e rm_N_handsOf s m args below meth c 8 (MQ below (ra_Qc X Z) args s 0 0 (ra_A X)) (b_N_handsOf_141 c0 c1 I Z) 141 :=
  r_iinc F d_N_handsOf_141 (by decide) (by decide) <| r_goto F d_N_handsOf_144 (by decide) (hI 34 (by decide))
theorem o_N_handsOf_130 {X : ra_X} {p : Program} {l : Launch} {e : Env} {s : State} {m : MethodId} {args : Array Value} {below : List Frame} {meth : Method} {c : Code} {Z : ra_R} {c0 c1 : ra_Sp}  (h0 : ra_MOK l X mi_N_reads c0) (h1 : ra_MOK l X mi_N_stronger c1) (F : ra_Fx X p rm_N_handsOf s m args c prog_13_method_59_code 8 cn_N) (hr : meth.sig.returnType = (some .int)) (hlk : meth.locks = false) {I : Nat → ra_K} (hI : ∀ t ∈ [6, 34, 48, 152, 164], ra_At X p l e rm_N_handsOf s m args below meth c 8 (MQ below (ra_Qc X Z) args s 0 0 (ra_A X)) (I t) t) : ra_At X p l e rm_N_handsOf s m args below meth c 8 (MQ below (ra_Qc X Z) args s 0 0 (ra_A X)) (b_N_handsOf_130 c0 c1 I Z) 130 :=
  r_aload_n F d_N_handsOf_130 rfl <| r_getR F cg_N (j := 12) (by decide) rfl fl_N_40 d_N_handsOf_131 <| r_iload F d_N_handsOf_134 <| r_dup2 F d_N_handsOf_136 <| r_iaload F d_N_handsOf_137 <| r_iconst F d_N_handsOf_138 (by decide) <| r_iadd F d_N_handsOf_139 <| r_iastore F d_N_handsOf_140 <| (o_N_handsOf_141 h0 h1 F hr hlk hI)
theorem o_N_handsOf_124 {X : ra_X} {p : Program} {l : Launch} {e : Env} {s : State} {m : MethodId} {args : Array Value} {below : List Frame} {meth : Method} {c : Code} {Z : ra_R} {c0 c1 : ra_Sp}  (h0 : ra_MOK l X mi_N_reads c0) (h1 : ra_MOK l X mi_N_stronger c1) (F : ra_Fx X p rm_N_handsOf s m args c prog_13_method_59_code 8 cn_N) (hr : meth.sig.returnType = (some .int)) (hlk : meth.locks = false) {I : Nat → ra_K} (hI : ∀ t ∈ [6, 34, 48, 152, 164], ra_At X p l e rm_N_handsOf s m args below meth c 8 (MQ below (ra_Qc X Z) args s 0 0 (ra_A X)) (I t) t) : ra_At X p l e rm_N_handsOf s m args below meth c 8 (MQ below (ra_Qc X Z) args s 0 0 (ra_A X)) (b_N_handsOf_124 c0 c1 I Z) 124 :=
  r_iload F d_N_handsOf_124 <| r_iconst F d_N_handsOf_126 (by decide) <| r_icmp_eq F d_N_handsOf_127 (by decide) (o_N_handsOf_141 h0 h1 F hr hlk hI) (o_N_handsOf_130 h0 h1 F hr hlk hI)
theorem o_N_handsOf_116 {X : ra_X} {p : Program} {l : Launch} {e : Env} {s : State} {m : MethodId} {args : Array Value} {below : List Frame} {meth : Method} {c : Code} {Z : ra_R} {c0 c1 : ra_Sp}  (h0 : ra_MOK l X mi_N_reads c0) (h1 : ra_MOK l X mi_N_stronger c1) (F : ra_Fx X p rm_N_handsOf s m args c prog_13_method_59_code 8 cn_N) (hr : meth.sig.returnType = (some .int)) (hlk : meth.locks = false) {I : Nat → ra_K} (hI : ∀ t ∈ [6, 34, 48, 152, 164], ra_At X p l e rm_N_handsOf s m args below meth c 8 (MQ below (ra_Qc X Z) args s 0 0 (ra_A X)) (I t) t) : ra_At X p l e rm_N_handsOf s m args below meth c 8 (MQ below (ra_Qc X Z) args s 0 0 (ra_A X)) (b_N_handsOf_116 c0 c1 I Z) 116 :=
  r_istore F d_N_handsOf_116 (by decide) <| r_iinc F d_N_handsOf_118 (by decide) (by decide) <| r_goto F d_N_handsOf_121 (by decide) (hI 48 (by decide))
theorem o_N_handsOf_114 {X : ra_X} {p : Program} {l : Launch} {e : Env} {s : State} {m : MethodId} {args : Array Value} {below : List Frame} {meth : Method} {c : Code} {Z : ra_R} {c0 c1 : ra_Sp}  (h0 : ra_MOK l X mi_N_reads c0) (h1 : ra_MOK l X mi_N_stronger c1) (F : ra_Fx X p rm_N_handsOf s m args c prog_13_method_59_code 8 cn_N) (hr : meth.sig.returnType = (some .int)) (hlk : meth.locks = false) {I : Nat → ra_K} (hI : ∀ t ∈ [6, 34, 48, 152, 164], ra_At X p l e rm_N_handsOf s m args below meth c 8 (MQ below (ra_Qc X Z) args s 0 0 (ra_A X)) (I t) t) : ra_At X p l e rm_N_handsOf s m args below meth c 8 (MQ below (ra_Qc X Z) args s 0 0 (ra_A X)) (b_N_handsOf_114 c0 c1 I Z) 114 :=
  r_iload F d_N_handsOf_114 <| (o_N_handsOf_116 h0 h1 F hr hlk hI)
theorem o_N_handsOf_109 {X : ra_X} {p : Program} {l : Launch} {e : Env} {s : State} {m : MethodId} {args : Array Value} {below : List Frame} {meth : Method} {c : Code} {Z : ra_R} {c0 c1 : ra_Sp}  (h0 : ra_MOK l X mi_N_reads c0) (h1 : ra_MOK l X mi_N_stronger c1) (F : ra_Fx X p rm_N_handsOf s m args c prog_13_method_59_code 8 cn_N) (hr : meth.sig.returnType = (some .int)) (hlk : meth.locks = false) {I : Nat → ra_K} (hI : ∀ t ∈ [6, 34, 48, 152, 164], ra_At X p l e rm_N_handsOf s m args below meth c 8 (MQ below (ra_Qc X Z) args s 0 0 (ra_A X)) (I t) t) : ra_At X p l e rm_N_handsOf s m args below meth c 8 (MQ below (ra_Qc X Z) args s 0 0 (ra_A X)) (b_N_handsOf_109 c0 c1 I Z) 109 :=
  r_iload F d_N_handsOf_109 <| r_goto F d_N_handsOf_111 (by decide) (o_N_handsOf_116 h0 h1 F hr hlk hI)
theorem o_N_handsOf_100 {X : ra_X} {p : Program} {l : Launch} {e : Env} {s : State} {m : MethodId} {args : Array Value} {below : List Frame} {meth : Method} {c : Code} {Z : ra_R} {c0 c1 : ra_Sp}  (h0 : ra_MOK l X mi_N_reads c0) (h1 : ra_MOK l X mi_N_stronger c1) (F : ra_Fx X p rm_N_handsOf s m args c prog_13_method_59_code 8 cn_N) (hr : meth.sig.returnType = (some .int)) (hlk : meth.locks = false) {I : Nat → ra_K} (hI : ∀ t ∈ [6, 34, 48, 152, 164], ra_At X p l e rm_N_handsOf s m args below meth c 8 (MQ below (ra_Qc X Z) args s 0 0 (ra_A X)) (I t) t) : ra_At X p l e rm_N_handsOf s m args below meth c 8 (MQ below (ra_Qc X Z) args s 0 0 (ra_A X)) (b_N_handsOf_100 c0 c1 I Z) 100 :=
  r_istore F d_N_handsOf_100 (by decide) <| r_iload F d_N_handsOf_102 <| r_iload F d_N_handsOf_104 <| r_icmp_le F d_N_handsOf_106 (by decide) (o_N_handsOf_114 h0 h1 F hr hlk hI) (o_N_handsOf_109 h0 h1 F hr hlk hI)
theorem o_N_handsOf_98 {X : ra_X} {p : Program} {l : Launch} {e : Env} {s : State} {m : MethodId} {args : Array Value} {below : List Frame} {meth : Method} {c : Code} {Z : ra_R} {c0 c1 : ra_Sp}  (h0 : ra_MOK l X mi_N_reads c0) (h1 : ra_MOK l X mi_N_stronger c1) (F : ra_Fx X p rm_N_handsOf s m args c prog_13_method_59_code 8 cn_N) (hr : meth.sig.returnType = (some .int)) (hlk : meth.locks = false) {I : Nat → ra_K} (hI : ∀ t ∈ [6, 34, 48, 152, 164], ra_At X p l e rm_N_handsOf s m args below meth c 8 (MQ below (ra_Qc X Z) args s 0 0 (ra_A X)) (I t) t) : ra_At X p l e rm_N_handsOf s m args below meth c 8 (MQ below (ra_Qc X Z) args s 0 0 (ra_A X)) (b_N_handsOf_98 c0 c1 I Z) 98 :=
  r_iload F d_N_handsOf_98 <| (o_N_handsOf_100 h0 h1 F hr hlk hI)
theorem o_N_handsOf_93 {X : ra_X} {p : Program} {l : Launch} {e : Env} {s : State} {m : MethodId} {args : Array Value} {below : List Frame} {meth : Method} {c : Code} {Z : ra_R} {c0 c1 : ra_Sp}  (h0 : ra_MOK l X mi_N_reads c0) (h1 : ra_MOK l X mi_N_stronger c1) (F : ra_Fx X p rm_N_handsOf s m args c prog_13_method_59_code 8 cn_N) (hr : meth.sig.returnType = (some .int)) (hlk : meth.locks = false) {I : Nat → ra_K} (hI : ∀ t ∈ [6, 34, 48, 152, 164], ra_At X p l e rm_N_handsOf s m args below meth c 8 (MQ below (ra_Qc X Z) args s 0 0 (ra_A X)) (I t) t) : ra_At X p l e rm_N_handsOf s m args below meth c 8 (MQ below (ra_Qc X Z) args s 0 0 (ra_A X)) (b_N_handsOf_93 c0 c1 I Z) 93 :=
  r_iload F d_N_handsOf_93 <| r_goto F d_N_handsOf_95 (by decide) (o_N_handsOf_100 h0 h1 F hr hlk hI)
theorem o_N_handsOf_84 {X : ra_X} {p : Program} {l : Launch} {e : Env} {s : State} {m : MethodId} {args : Array Value} {below : List Frame} {meth : Method} {c : Code} {Z : ra_R} {c0 c1 : ra_Sp}  (h0 : ra_MOK l X mi_N_reads c0) (h1 : ra_MOK l X mi_N_stronger c1) (F : ra_Fx X p rm_N_handsOf s m args c prog_13_method_59_code 8 cn_N) (hr : meth.sig.returnType = (some .int)) (hlk : meth.locks = false) {I : Nat → ra_K} (hI : ∀ t ∈ [6, 34, 48, 152, 164], ra_At X p l e rm_N_handsOf s m args below meth c 8 (MQ below (ra_Qc X Z) args s 0 0 (ra_A X)) (I t) t) : ra_At X p l e rm_N_handsOf s m args below meth c 8 (MQ below (ra_Qc X Z) args s 0 0 (ra_A X)) (b_N_handsOf_84 c0 c1 I Z) 84 :=
  r_istore F d_N_handsOf_84 (by decide) <| r_iload F d_N_handsOf_86 <| r_iload F d_N_handsOf_88 <| r_icmp_le F d_N_handsOf_90 (by decide) (o_N_handsOf_98 h0 h1 F hr hlk hI) (o_N_handsOf_93 h0 h1 F hr hlk hI)
theorem o_N_handsOf_83 {X : ra_X} {p : Program} {l : Launch} {e : Env} {s : State} {m : MethodId} {args : Array Value} {below : List Frame} {meth : Method} {c : Code} {Z : ra_R} {c0 c1 : ra_Sp}  (h0 : ra_MOK l X mi_N_reads c0) (h1 : ra_MOK l X mi_N_stronger c1) (F : ra_Fx X p rm_N_handsOf s m args c prog_13_method_59_code 8 cn_N) (hr : meth.sig.returnType = (some .int)) (hlk : meth.locks = false) {I : Nat → ra_K} (hI : ∀ t ∈ [6, 34, 48, 152, 164], ra_At X p l e rm_N_handsOf s m args below meth c 8 (MQ below (ra_Qc X Z) args s 0 0 (ra_A X)) (I t) t) : ra_At X p l e rm_N_handsOf s m args below meth c 8 (MQ below (ra_Qc X Z) args s 0 0 (ra_A X)) (b_N_handsOf_83 c0 c1 I Z) 83 :=
  r_iconst F d_N_handsOf_83 (by decide) <| (o_N_handsOf_84 h0 h1 F hr hlk hI)
theorem o_N_handsOf_69 {X : ra_X} {p : Program} {l : Launch} {e : Env} {s : State} {m : MethodId} {args : Array Value} {below : List Frame} {meth : Method} {c : Code} {Z : ra_R} {c0 c1 : ra_Sp}  (h0 : ra_MOK l X mi_N_reads c0) (h1 : ra_MOK l X mi_N_stronger c1) (F : ra_Fx X p rm_N_handsOf s m args c prog_13_method_59_code 8 cn_N) (hr : meth.sig.returnType = (some .int)) (hlk : meth.locks = false) {I : Nat → ra_K} (hI : ∀ t ∈ [6, 34, 48, 152, 164], ra_At X p l e rm_N_handsOf s m args below meth c 8 (MQ below (ra_Qc X Z) args s 0 0 (ra_A X)) (I t) t) : ra_At X p l e rm_N_handsOf s m args below meth c 8 (MQ below (ra_Qc X Z) args s 0 0 (ra_A X)) (b_N_handsOf_69 c0 c1 I Z) 69 :=
  r_aload_n F d_N_handsOf_69 rfl <| r_aload_n F d_N_handsOf_70 rfl <| r_getR F cg_N (j := 12) (by decide) rfl fl_N_40 d_N_handsOf_71 <| r_iload F d_N_handsOf_74 <| r_iaload F d_N_handsOf_76 <| r_callV F h1 (co_N_stronger (by decide +kernel) (by decide +kernel)) ⟨rfl, by decide +kernel⟩ ⟨rfl, by decide⟩ ml_N_221 im_N_stronger se_N_stronger d_N_handsOf_77 <| r_goto F d_N_handsOf_80 (by decide) (o_N_handsOf_84 h0 h1 F hr hlk hI)
theorem o_N_handsOf_57 {X : ra_X} {p : Program} {l : Launch} {e : Env} {s : State} {m : MethodId} {args : Array Value} {below : List Frame} {meth : Method} {c : Code} {Z : ra_R} {c0 c1 : ra_Sp}  (h0 : ra_MOK l X mi_N_reads c0) (h1 : ra_MOK l X mi_N_stronger c1) (F : ra_Fx X p rm_N_handsOf s m args c prog_13_method_59_code 8 cn_N) (hr : meth.sig.returnType = (some .int)) (hlk : meth.locks = false) {I : Nat → ra_K} (hI : ∀ t ∈ [6, 34, 48, 152, 164], ra_At X p l e rm_N_handsOf s m args below meth c 8 (MQ below (ra_Qc X Z) args s 0 0 (ra_A X)) (I t) t) : ra_At X p l e rm_N_handsOf s m args below meth c 8 (MQ below (ra_Qc X Z) args s 0 0 (ra_A X)) (b_N_handsOf_57 c0 c1 I Z) 57 :=
  r_aload_n F d_N_handsOf_57 rfl <| r_getR F cg_N (j := 12) (by decide) rfl fl_N_40 d_N_handsOf_58 <| r_iload F d_N_handsOf_61 <| r_iaload F d_N_handsOf_63 <| r_bipush F d_N_handsOf_64 (by decide) <| r_icmp_ge F d_N_handsOf_66 (by decide) (o_N_handsOf_83 h0 h1 F hr hlk hI) (o_N_handsOf_69 h0 h1 F hr hlk hI)
theorem o_N_handsOf_48 {X : ra_X} {p : Program} {l : Launch} {e : Env} {s : State} {m : MethodId} {args : Array Value} {below : List Frame} {meth : Method} {c : Code} {Z : ra_R} {c0 c1 : ra_Sp}  (h0 : ra_MOK l X mi_N_reads c0) (h1 : ra_MOK l X mi_N_stronger c1) (F : ra_Fx X p rm_N_handsOf s m args c prog_13_method_59_code 8 cn_N) (hr : meth.sig.returnType = (some .int)) (hlk : meth.locks = false) {I : Nat → ra_K} (hI : ∀ t ∈ [6, 34, 48, 152, 164], ra_At X p l e rm_N_handsOf s m args below meth c 8 (MQ below (ra_Qc X Z) args s 0 0 (ra_A X)) (I t) t) : ra_At X p l e rm_N_handsOf s m args below meth c 8 (MQ below (ra_Qc X Z) args s 0 0 (ra_A X)) (b_N_handsOf_48 c0 c1 I Z) 48 :=
  r_iload F d_N_handsOf_48 <| r_aload_n F d_N_handsOf_50 rfl <| r_getI F cg_N (j := 2) (by decide) rfl fl_N_109 d_N_handsOf_51 <| r_icmp_ge F d_N_handsOf_54 (by decide) (o_N_handsOf_124 h0 h1 F hr hlk hI) (o_N_handsOf_57 h0 h1 F hr hlk hI)
theorem o_N_handsOf_39 {X : ra_X} {p : Program} {l : Launch} {e : Env} {s : State} {m : MethodId} {args : Array Value} {below : List Frame} {meth : Method} {c : Code} {Z : ra_R} {c0 c1 : ra_Sp}  (h0 : ra_MOK l X mi_N_reads c0) (h1 : ra_MOK l X mi_N_stronger c1) (F : ra_Fx X p rm_N_handsOf s m args c prog_13_method_59_code 8 cn_N) (hr : meth.sig.returnType = (some .int)) (hlk : meth.locks = false) {I : Nat → ra_K} (hI : ∀ t ∈ [6, 34, 48, 152, 164], ra_At X p l e rm_N_handsOf s m args below meth c 8 (MQ below (ra_Qc X Z) args s 0 0 (ra_A X)) (I t) t) : ra_At X p l e rm_N_handsOf s m args below meth c 8 (MQ below (ra_Qc X Z) args s 0 0 (ra_A X)) (b_N_handsOf_39 c0 c1 I Z) 39 :=
  r_iconst F d_N_handsOf_39 (by decide) <| r_istore F d_N_handsOf_40 (by decide) <| r_iconst F d_N_handsOf_42 (by decide) <| r_istore F d_N_handsOf_43 (by decide) <| r_iconst F d_N_handsOf_45 (by decide) <| r_istore F d_N_handsOf_46 (by decide) <| (hI 48 (by decide))
theorem o_N_handsOf_34 {X : ra_X} {p : Program} {l : Launch} {e : Env} {s : State} {m : MethodId} {args : Array Value} {below : List Frame} {meth : Method} {c : Code} {Z : ra_R} {c0 c1 : ra_Sp}  (h0 : ra_MOK l X mi_N_reads c0) (h1 : ra_MOK l X mi_N_stronger c1) (F : ra_Fx X p rm_N_handsOf s m args c prog_13_method_59_code 8 cn_N) (hr : meth.sig.returnType = (some .int)) (hlk : meth.locks = false) {I : Nat → ra_K} (hI : ∀ t ∈ [6, 34, 48, 152, 164], ra_At X p l e rm_N_handsOf s m args below meth c 8 (MQ below (ra_Qc X Z) args s 0 0 (ra_A X)) (I t) t) : ra_At X p l e rm_N_handsOf s m args below meth c 8 (MQ below (ra_Qc X Z) args s 0 0 (ra_A X)) (b_N_handsOf_34 c0 c1 I Z) 34 :=
  r_iload_n F d_N_handsOf_34 rfl <| r_iload_n F d_N_handsOf_35 rfl <| r_icmp_ge F d_N_handsOf_36 (by decide) (o_N_handsOf_147 h0 h1 F hr hlk hI) (o_N_handsOf_39 h0 h1 F hr hlk hI)
theorem o_N_handsOf_32 {X : ra_X} {p : Program} {l : Launch} {e : Env} {s : State} {m : MethodId} {args : Array Value} {below : List Frame} {meth : Method} {c : Code} {Z : ra_R} {c0 c1 : ra_Sp}  (h0 : ra_MOK l X mi_N_reads c0) (h1 : ra_MOK l X mi_N_stronger c1) (F : ra_Fx X p rm_N_handsOf s m args c prog_13_method_59_code 8 cn_N) (hr : meth.sig.returnType = (some .int)) (hlk : meth.locks = false) {I : Nat → ra_K} (hI : ∀ t ∈ [6, 34, 48, 152, 164], ra_At X p l e rm_N_handsOf s m args below meth c 8 (MQ below (ra_Qc X Z) args s 0 0 (ra_A X)) (I t) t) : ra_At X p l e rm_N_handsOf s m args below meth c 8 (MQ below (ra_Qc X Z) args s 0 0 (ra_A X)) (b_N_handsOf_32 c0 c1 I Z) 32 :=
  r_iconst F d_N_handsOf_32 (by decide) <| r_istore_n F d_N_handsOf_33 rfl (by decide) <| (hI 34 (by decide))
theorem o_N_handsOf_14 {X : ra_X} {p : Program} {l : Launch} {e : Env} {s : State} {m : MethodId} {args : Array Value} {below : List Frame} {meth : Method} {c : Code} {Z : ra_R} {c0 c1 : ra_Sp}  (h0 : ra_MOK l X mi_N_reads c0) (h1 : ra_MOK l X mi_N_stronger c1) (F : ra_Fx X p rm_N_handsOf s m args c prog_13_method_59_code 8 cn_N) (hr : meth.sig.returnType = (some .int)) (hlk : meth.locks = false) {I : Nat → ra_K} (hI : ∀ t ∈ [6, 34, 48, 152, 164], ra_At X p l e rm_N_handsOf s m args below meth c 8 (MQ below (ra_Qc X Z) args s 0 0 (ra_A X)) (I t) t) : ra_At X p l e rm_N_handsOf s m args below meth c 8 (MQ below (ra_Qc X Z) args s 0 0 (ra_A X)) (b_N_handsOf_14 c0 c1 I Z) 14 :=
  r_aload_n F d_N_handsOf_14 rfl <| r_getR F cg_N (j := 12) (by decide) rfl fl_N_40 d_N_handsOf_15 <| r_iload_n F d_N_handsOf_18 rfl <| r_aload_n F d_N_handsOf_19 rfl <| r_getR F cg_N (j := 3) (by decide) rfl fl_N_16 d_N_handsOf_20 <| r_iload_n F d_N_handsOf_23 rfl <| r_iaload F d_N_handsOf_24 <| r_iastore F d_N_handsOf_25 <| r_iinc F d_N_handsOf_26 (by decide) (by decide) <| r_goto F d_N_handsOf_29 (by decide) (hI 6 (by decide))
theorem o_N_handsOf_6 {X : ra_X} {p : Program} {l : Launch} {e : Env} {s : State} {m : MethodId} {args : Array Value} {below : List Frame} {meth : Method} {c : Code} {Z : ra_R} {c0 c1 : ra_Sp}  (h0 : ra_MOK l X mi_N_reads c0) (h1 : ra_MOK l X mi_N_stronger c1) (F : ra_Fx X p rm_N_handsOf s m args c prog_13_method_59_code 8 cn_N) (hr : meth.sig.returnType = (some .int)) (hlk : meth.locks = false) {I : Nat → ra_K} (hI : ∀ t ∈ [6, 34, 48, 152, 164], ra_At X p l e rm_N_handsOf s m args below meth c 8 (MQ below (ra_Qc X Z) args s 0 0 (ra_A X)) (I t) t) : ra_At X p l e rm_N_handsOf s m args below meth c 8 (MQ below (ra_Qc X Z) args s 0 0 (ra_A X)) (b_N_handsOf_6 c0 c1 I Z) 6 :=
  r_iload_n F d_N_handsOf_6 rfl <| r_aload_n F d_N_handsOf_7 rfl <| r_getI F cg_N (j := 2) (by decide) rfl fl_N_109 d_N_handsOf_8 <| r_icmp_ge F d_N_handsOf_11 (by decide) (o_N_handsOf_32 h0 h1 F hr hlk hI) (o_N_handsOf_14 h0 h1 F hr hlk hI)
theorem o_N_handsOf_0 {X : ra_X} {p : Program} {l : Launch} {e : Env} {s : State} {m : MethodId} {args : Array Value} {below : List Frame} {meth : Method} {c : Code} {Z : ra_R} {c0 c1 : ra_Sp}  (h0 : ra_MOK l X mi_N_reads c0) (h1 : ra_MOK l X mi_N_stronger c1) (F : ra_Fx X p rm_N_handsOf s m args c prog_13_method_59_code 8 cn_N) (hr : meth.sig.returnType = (some .int)) (hlk : meth.locks = false) {I : Nat → ra_K} (hI : ∀ t ∈ [6, 34, 48, 152, 164], ra_At X p l e rm_N_handsOf s m args below meth c 8 (MQ below (ra_Qc X Z) args s 0 0 (ra_A X)) (I t) t) : ra_At X p l e rm_N_handsOf s m args below meth c 8 (MQ below (ra_Qc X Z) args s 0 0 (ra_A X)) (b_N_handsOf_0 c0 c1 I Z) 0 :=
  r_aload_n F d_N_handsOf_0 rfl <| r_callV F h0 (co_N_reads (by decide +kernel) (by decide +kernel)) ⟨rfl, by decide +kernel⟩ ⟨rfl, by decide⟩ ml_N_134 im_N_reads se_N_reads d_N_handsOf_1 <| r_iconst F d_N_handsOf_4 (by decide) <| r_istore_n F d_N_handsOf_5 rfl (by decide) <| (hI 6 (by decide))
theorem g_N_handsOf {l : Launch} {X : ra_X} {c0 c1 : ra_Sp}  (h0 : ra_MOK l X mi_N_reads c0) (h1 : ra_MOK l X mi_N_stronger c1) (sp : ra_Sp) (I : ra_R → List Value → ra_St → Nat → ra_M → ra_K) (ve : ∀ as σ Z, ra_c1 as = true → as.length = 3 → sp as σ Z → b_N_handsOf_0 c0 c1 (ra_I (I Z as σ)) Z (ra_pad 8 as) [] σ) (v6 : ∀ as σ Z, sp as σ Z → ∀ μ L S σ1, I Z as σ 6 μ L S σ1 → b_N_handsOf_6 c0 c1 (ra_J (I Z as σ) μ) Z L S σ1) (v34 : ∀ as σ Z, sp as σ Z → ∀ μ L S σ1, I Z as σ 34 μ L S σ1 → b_N_handsOf_34 c0 c1 (ra_J (I Z as σ) μ) Z L S σ1) (v48 : ∀ as σ Z, sp as σ Z → ∀ μ L S σ1, I Z as σ 48 μ L S σ1 → b_N_handsOf_48 c0 c1 (ra_J (I Z as σ) μ) Z L S σ1) (v152 : ∀ as σ Z, sp as σ Z → ∀ μ L S σ1, I Z as σ 152 μ L S σ1 → b_N_handsOf_152 c0 c1 (ra_J (I Z as σ) μ) Z L S σ1) (v164 : ∀ as σ Z, sp as σ Z → ∀ μ L S σ1, I Z as σ 164 μ L S σ1 → b_N_handsOf_164 c0 c1 (ra_J (I Z as σ) μ) Z L S σ1) : ra_MOK l X mi_N_handsOf sp := by
  refine ra_enter (k := fun Z as σ => b_N_handsOf_0 c0 c1 (ra_I (I Z as σ)) Z) cn_N rfl (by decide +kernel) ⟨by decide +kernel, by decide +kernel⟩ (by decide +kernel) ?_ ve
  intro p e s m args below meth c Z as σ hsp F hr hlk
  refine o_N_handsOf_0 h0 h1 F hr hlk (ra_cuts (b := fun t J => if t = 6 then b_N_handsOf_6 c0 c1 J Z else if t = 34 then b_N_handsOf_34 c0 c1 J Z else if t = 48 then b_N_handsOf_48 c0 c1 J Z else if t = 152 then b_N_handsOf_152 c0 c1 J Z else if t = 164 then b_N_handsOf_164 c0 c1 J Z else fun _ _ _ => False) ?_ ?_)
  · intro t ht J hJ
    simp only [List.mem_cons, List.not_mem_nil, or_false] at ht
    rcases ht with rfl | rfl | rfl | rfl | rfl
    · exact o_N_handsOf_6 h0 h1 F hr hlk hJ
    · exact o_N_handsOf_34 h0 h1 F hr hlk hJ
    · exact o_N_handsOf_48 h0 h1 F hr hlk hJ
    · exact o_N_handsOf_152 h0 h1 F hr hlk hJ
    · exact o_N_handsOf_164 h0 h1 F hr hlk hJ
  · intro t ht μ L S σ1 hI
    simp only [List.mem_cons, List.not_mem_nil, or_false] at ht
    rcases ht with rfl | rfl | rfl | rfl | rfl
    · exact v6 as σ Z hsp μ L S σ1 hI
    · exact v34 as σ Z hsp μ L S σ1 hI
    · exact v48 as σ Z hsp μ L S σ1 hI
    · exact v152 as σ Z hsp μ L S σ1 hI
    · exact v164 as σ Z hsp μ L S σ1 hI

theorem d_N_hands_0 : decode prog_13_method_60_code 0 = .ok (.iload_n 1, 1) := by decide +kernel
theorem d_N_hands_1 : decode prog_13_method_60_code 1 = .ok (.iconst 0, 1) := by decide +kernel
theorem d_N_hands_2 : decode prog_13_method_60_code 2 = .ok (.bipush 72, 2) := by decide +kernel
theorem d_N_hands_4 : decode prog_13_method_60_code 4 = .ok (.invokestatic 101, 3) := by decide +kernel
theorem d_N_hands_7 : decode prog_13_method_60_code 7 = .ok (.ifCond .eq 25, 3) := by decide +kernel
theorem d_N_hands_10 : decode prog_13_method_60_code 10 = .ok (.iload_n 2, 1) := by decide +kernel
theorem d_N_hands_11 : decode prog_13_method_60_code 11 = .ok (.iconst (-1), 1) := by decide +kernel
theorem d_N_hands_12 : decode prog_13_method_60_code 12 = .ok (.if_icmp .eq 11, 3) := by decide +kernel
theorem d_N_hands_15 : decode prog_13_method_60_code 15 = .ok (.aload_n 0, 1) := by decide +kernel
theorem d_N_hands_16 : decode prog_13_method_60_code 16 = .ok (.iload_n 2, 1) := by decide +kernel
theorem d_N_hands_17 : decode prog_13_method_60_code 17 = .ok (.invokevirtual 140, 3) := by decide +kernel
theorem d_N_hands_20 : decode prog_13_method_60_code 20 = .ok (.ifCond .eq 12, 3) := by decide +kernel
theorem d_N_hands_23 : decode prog_13_method_60_code 23 = .ok (.aload_n 0, 1) := by decide +kernel
theorem d_N_hands_24 : decode prog_13_method_60_code 24 = .ok (.iload_n 1, 1) := by decide +kernel
theorem d_N_hands_25 : decode prog_13_method_60_code 25 = .ok (.iload_n 2, 1) := by decide +kernel
theorem d_N_hands_26 : decode prog_13_method_60_code 26 = .ok (.invokevirtual 224, 3) := by decide +kernel
theorem d_N_hands_29 : decode prog_13_method_60_code 29 = .ok (.goto 5, 3) := by decide +kernel
theorem d_N_hands_32 : decode prog_13_method_60_code 32 = .ok (.bipush (-2), 2) := by decide +kernel
theorem d_N_hands_34 : decode prog_13_method_60_code 34 = .ok (.ireturn, 1) := by decide +kernel
def b_N_hands_34 (c0 c1 c2 : ra_Sp) (Z : ra_R) : ra_K := w_ir Z
def b_N_hands_32 (c0 c1 c2 : ra_Sp) (Z : ra_R) : ra_K := w_c (-2) <| (b_N_hands_34 c0 c1 c2 Z)
def b_N_hands_23 (c0 c1 c2 : ra_Sp) (Z : ra_R) : ra_K := w_al 0 <| w_il 1 <| w_il 2 <| w_cv c2 3 11 <| (b_N_hands_34 c0 c1 c2 Z)
def b_N_hands_15 (c0 c1 c2 : ra_Sp) (Z : ra_R) : ra_K := w_al 0 <| w_il 2 <| w_cv c1 2 11 <| w_b1 (fun x => x = 0) (b_N_hands_32 c0 c1 c2 Z) (b_N_hands_23 c0 c1 c2 Z)
def b_N_hands_10 (c0 c1 c2 : ra_Sp) (Z : ra_R) : ra_K := w_il 2 <| w_c (-1) <| w_b2 (fun x y => x = y) (b_N_hands_23 c0 c1 c2 Z) (b_N_hands_15 c0 c1 c2 Z)
def b_N_hands_0 (c0 c1 c2 : ra_Sp) (Z : ra_R) : ra_K := w_il 1 <| w_c 0 <| w_c 72 <| w_cs c0 3 <| w_b1 (fun x => x = 0) (b_N_hands_32 c0 c1 c2 Z) (b_N_hands_10 c0 c1 c2 Z)
theorem o_N_hands_34 {X : ra_X} {p : Program} {l : Launch} {e : Env} {s : State} {m : MethodId} {args : Array Value} {below : List Frame} {meth : Method} {c : Code} {Z : ra_R} {c0 c1 c2 : ra_Sp}  (h0 : ra_MOK l X mi_N_in c0) (h1 : ra_MOK l X mi_N_isHouse c1) (h2 : ra_MOK l X mi_N_handsOf c2) (F : ra_Fx X p rm_N_hands s m args c prog_13_method_60_code 3 cn_N) (hr : meth.sig.returnType = (some .int)) (hlk : meth.locks = false) : ra_At X p l e rm_N_hands s m args below meth c 3 (MQ below (ra_Qc X Z) args s 0 0 (ra_A X)) (b_N_hands_34 c0 c1 c2 Z) 34 :=
  r_ireturn F hr hlk d_N_hands_34
theorem o_N_hands_32 {X : ra_X} {p : Program} {l : Launch} {e : Env} {s : State} {m : MethodId} {args : Array Value} {below : List Frame} {meth : Method} {c : Code} {Z : ra_R} {c0 c1 c2 : ra_Sp}  (h0 : ra_MOK l X mi_N_in c0) (h1 : ra_MOK l X mi_N_isHouse c1) (h2 : ra_MOK l X mi_N_handsOf c2) (F : ra_Fx X p rm_N_hands s m args c prog_13_method_60_code 3 cn_N) (hr : meth.sig.returnType = (some .int)) (hlk : meth.locks = false) : ra_At X p l e rm_N_hands s m args below meth c 3 (MQ below (ra_Qc X Z) args s 0 0 (ra_A X)) (b_N_hands_32 c0 c1 c2 Z) 32 :=
  r_bipush F d_N_hands_32 (by decide) <| (o_N_hands_34 h0 h1 h2 F hr hlk)
theorem o_N_hands_23 {X : ra_X} {p : Program} {l : Launch} {e : Env} {s : State} {m : MethodId} {args : Array Value} {below : List Frame} {meth : Method} {c : Code} {Z : ra_R} {c0 c1 c2 : ra_Sp}  (h0 : ra_MOK l X mi_N_in c0) (h1 : ra_MOK l X mi_N_isHouse c1) (h2 : ra_MOK l X mi_N_handsOf c2) (F : ra_Fx X p rm_N_hands s m args c prog_13_method_60_code 3 cn_N) (hr : meth.sig.returnType = (some .int)) (hlk : meth.locks = false) : ra_At X p l e rm_N_hands s m args below meth c 3 (MQ below (ra_Qc X Z) args s 0 0 (ra_A X)) (b_N_hands_23 c0 c1 c2 Z) 23 :=
  r_aload_n F d_N_hands_23 rfl <| r_iload_n F d_N_hands_24 rfl <| r_iload_n F d_N_hands_25 rfl <| r_callV F h2 (co_N_handsOf (by decide +kernel) (by decide +kernel)) ⟨rfl, by decide +kernel⟩ ⟨rfl, by decide⟩ ml_N_224 im_N_handsOf se_N_handsOf d_N_hands_26 <| r_goto F d_N_hands_29 (by decide) (o_N_hands_34 h0 h1 h2 F hr hlk)
theorem o_N_hands_15 {X : ra_X} {p : Program} {l : Launch} {e : Env} {s : State} {m : MethodId} {args : Array Value} {below : List Frame} {meth : Method} {c : Code} {Z : ra_R} {c0 c1 c2 : ra_Sp}  (h0 : ra_MOK l X mi_N_in c0) (h1 : ra_MOK l X mi_N_isHouse c1) (h2 : ra_MOK l X mi_N_handsOf c2) (F : ra_Fx X p rm_N_hands s m args c prog_13_method_60_code 3 cn_N) (hr : meth.sig.returnType = (some .int)) (hlk : meth.locks = false) : ra_At X p l e rm_N_hands s m args below meth c 3 (MQ below (ra_Qc X Z) args s 0 0 (ra_A X)) (b_N_hands_15 c0 c1 c2 Z) 15 :=
  r_aload_n F d_N_hands_15 rfl <| r_iload_n F d_N_hands_16 rfl <| r_callV F h1 (co_N_isHouse (by decide +kernel) (by decide +kernel)) ⟨rfl, by decide +kernel⟩ ⟨rfl, by decide⟩ ml_N_140 im_N_isHouse se_N_isHouse d_N_hands_17 <| r_if_eq F d_N_hands_20 (by decide) (o_N_hands_32 h0 h1 h2 F hr hlk) (o_N_hands_23 h0 h1 h2 F hr hlk)
theorem o_N_hands_10 {X : ra_X} {p : Program} {l : Launch} {e : Env} {s : State} {m : MethodId} {args : Array Value} {below : List Frame} {meth : Method} {c : Code} {Z : ra_R} {c0 c1 c2 : ra_Sp}  (h0 : ra_MOK l X mi_N_in c0) (h1 : ra_MOK l X mi_N_isHouse c1) (h2 : ra_MOK l X mi_N_handsOf c2) (F : ra_Fx X p rm_N_hands s m args c prog_13_method_60_code 3 cn_N) (hr : meth.sig.returnType = (some .int)) (hlk : meth.locks = false) : ra_At X p l e rm_N_hands s m args below meth c 3 (MQ below (ra_Qc X Z) args s 0 0 (ra_A X)) (b_N_hands_10 c0 c1 c2 Z) 10 :=
  r_iload_n F d_N_hands_10 rfl <| r_iconst F d_N_hands_11 (by decide) <| r_icmp_eq F d_N_hands_12 (by decide) (o_N_hands_23 h0 h1 h2 F hr hlk) (o_N_hands_15 h0 h1 h2 F hr hlk)
theorem o_N_hands_0 {X : ra_X} {p : Program} {l : Launch} {e : Env} {s : State} {m : MethodId} {args : Array Value} {below : List Frame} {meth : Method} {c : Code} {Z : ra_R} {c0 c1 c2 : ra_Sp}  (h0 : ra_MOK l X mi_N_in c0) (h1 : ra_MOK l X mi_N_isHouse c1) (h2 : ra_MOK l X mi_N_handsOf c2) (F : ra_Fx X p rm_N_hands s m args c prog_13_method_60_code 3 cn_N) (hr : meth.sig.returnType = (some .int)) (hlk : meth.locks = false) : ra_At X p l e rm_N_hands s m args below meth c 3 (MQ below (ra_Qc X Z) args s 0 0 (ra_A X)) (b_N_hands_0 c0 c1 c2 Z) 0 :=
  r_iload_n F d_N_hands_0 rfl <| r_iconst F d_N_hands_1 (by decide) <| r_bipush F d_N_hands_2 (by decide) <| r_callS F h0 (co_N_in (by decide +kernel) (by decide +kernel)) ⟨rfl, by decide +kernel⟩ ml_N_101 st_N_in d_N_hands_4 <| r_if_eq F d_N_hands_7 (by decide) (o_N_hands_32 h0 h1 h2 F hr hlk) (o_N_hands_10 h0 h1 h2 F hr hlk)
theorem g_N_hands {l : Launch} {X : ra_X} {c0 c1 c2 : ra_Sp}  (h0 : ra_MOK l X mi_N_in c0) (h1 : ra_MOK l X mi_N_isHouse c1) (h2 : ra_MOK l X mi_N_handsOf c2) (sp : ra_Sp) (ve : ∀ as σ Z, ra_c1 as = true → as.length = 3 → sp as σ Z → b_N_hands_0 c0 c1 c2 Z (ra_pad 3 as) [] σ) : ra_MOK l X mi_N_hands sp := by
  refine ra_enter (k := fun Z as σ => b_N_hands_0 c0 c1 c2 Z) cn_N rfl (by decide +kernel) ⟨by decide +kernel, by decide +kernel⟩ (by decide +kernel) ?_ ve
  intro p e s m args below meth c Z as σ hsp F hr hlk
  exact o_N_hands_0 h0 h1 h2 F hr hlk

theorem d_N_claim_0 : decode prog_13_method_61_code 0 = .ok (.iload_n 1, 1) := by decide +kernel
theorem d_N_claim_1 : decode prog_13_method_61_code 1 = .ok (.invokestatic 188, 3) := by decide +kernel
theorem d_N_claim_4 : decode prog_13_method_61_code 4 = .ok (.ifCond .eq 14, 3) := by decide +kernel
theorem d_N_claim_7 : decode prog_13_method_61_code 7 = .ok (.iload_n 2, 1) := by decide +kernel
theorem d_N_claim_8 : decode prog_13_method_61_code 8 = .ok (.iconst (-1), 1) := by decide +kernel
theorem d_N_claim_9 : decode prog_13_method_61_code 9 = .ok (.sipush 999, 3) := by decide +kernel
theorem d_N_claim_12 : decode prog_13_method_61_code 12 = .ok (.invokestatic 101, 3) := by decide +kernel
theorem d_N_claim_15 : decode prog_13_method_61_code 15 = .ok (.ifCond .ne 6, 3) := by decide +kernel
theorem d_N_claim_18 : decode prog_13_method_61_code 18 = .ok (.bipush (-5), 2) := by decide +kernel
theorem d_N_claim_20 : decode prog_13_method_61_code 20 = .ok (.ireturn, 1) := by decide +kernel
theorem d_N_claim_21 : decode prog_13_method_61_code 21 = .ok (.aload_n 0, 1) := by decide +kernel
theorem d_N_claim_22 : decode prog_13_method_61_code 22 = .ok (.getfield 34, 3) := by decide +kernel
theorem d_N_claim_25 : decode prog_13_method_61_code 25 = .ok (.iload_n 1, 1) := by decide +kernel
theorem d_N_claim_26 : decode prog_13_method_61_code 26 = .ok (.iaload, 1) := by decide +kernel
theorem d_N_claim_27 : decode prog_13_method_61_code 27 = .ok (.istore_n 3, 1) := by decide +kernel
theorem d_N_claim_28 : decode prog_13_method_61_code 28 = .ok (.aload_n 0, 1) := by decide +kernel
theorem d_N_claim_29 : decode prog_13_method_61_code 29 = .ok (.getfield 34, 3) := by decide +kernel
theorem d_N_claim_32 : decode prog_13_method_61_code 32 = .ok (.iload_n 1, 1) := by decide +kernel
theorem d_N_claim_33 : decode prog_13_method_61_code 33 = .ok (.iload_n 2, 1) := by decide +kernel
theorem d_N_claim_34 : decode prog_13_method_61_code 34 = .ok (.iastore, 1) := by decide +kernel
theorem d_N_claim_35 : decode prog_13_method_61_code 35 = .ok (.iload_n 3, 1) := by decide +kernel
theorem d_N_claim_36 : decode prog_13_method_61_code 36 = .ok (.ireturn, 1) := by decide +kernel
def b_N_claim_21 (c0 c1 : ra_Sp) (Z : ra_R) : ra_K := w_al 0 <| w_gr 11 10 <| w_il 1 <| w_ald <| w_is 3 <| w_al 0 <| w_gr 11 10 <| w_il 1 <| w_il 2 <| w_ast <| w_il 3 <| w_ir Z
def b_N_claim_18 (c0 c1 : ra_Sp) (Z : ra_R) : ra_K := w_c (-5) <| w_ir Z
def b_N_claim_7 (c0 c1 : ra_Sp) (Z : ra_R) : ra_K := w_il 2 <| w_c (-1) <| w_c 999 <| w_cs c1 3 <| w_b1 (fun x => x = 0) (b_N_claim_18 c0 c1 Z) (b_N_claim_21 c0 c1 Z)
def b_N_claim_0 (c0 c1 : ra_Sp) (Z : ra_R) : ra_K := w_il 1 <| w_cs c0 1 <| w_b1 (fun x => x = 0) (b_N_claim_18 c0 c1 Z) (b_N_claim_7 c0 c1 Z)
theorem o_N_claim_21 {X : ra_X} {p : Program} {l : Launch} {e : Env} {s : State} {m : MethodId} {args : Array Value} {below : List Frame} {meth : Method} {c : Code} {Z : ra_R} {c0 c1 : ra_Sp}  (h0 : ra_MOK l X mi_N_isEight c0) (h1 : ra_MOK l X mi_N_in c1) (F : ra_Fx X p rm_N_claim s m args c prog_13_method_61_code 4 cn_N) (hr : meth.sig.returnType = (some .int)) (hlk : meth.locks = false) : ra_At X p l e rm_N_claim s m args below meth c 4 (MQ below (ra_Qc X Z) args s 0 0 (ra_A X)) (b_N_claim_21 c0 c1 Z) 21 :=
  r_aload_n F d_N_claim_21 rfl <| r_getR F cg_N (j := 10) (by decide) rfl fl_N_34 d_N_claim_22 <| r_iload_n F d_N_claim_25 rfl <| r_iaload F d_N_claim_26 <| r_istore_n F d_N_claim_27 rfl (by decide) <| r_aload_n F d_N_claim_28 rfl <| r_getR F cg_N (j := 10) (by decide) rfl fl_N_34 d_N_claim_29 <| r_iload_n F d_N_claim_32 rfl <| r_iload_n F d_N_claim_33 rfl <| r_iastore F d_N_claim_34 <| r_iload_n F d_N_claim_35 rfl <| r_ireturn F hr hlk d_N_claim_36
theorem o_N_claim_18 {X : ra_X} {p : Program} {l : Launch} {e : Env} {s : State} {m : MethodId} {args : Array Value} {below : List Frame} {meth : Method} {c : Code} {Z : ra_R} {c0 c1 : ra_Sp}  (h0 : ra_MOK l X mi_N_isEight c0) (h1 : ra_MOK l X mi_N_in c1) (F : ra_Fx X p rm_N_claim s m args c prog_13_method_61_code 4 cn_N) (hr : meth.sig.returnType = (some .int)) (hlk : meth.locks = false) : ra_At X p l e rm_N_claim s m args below meth c 4 (MQ below (ra_Qc X Z) args s 0 0 (ra_A X)) (b_N_claim_18 c0 c1 Z) 18 :=
  r_bipush F d_N_claim_18 (by decide) <| r_ireturn F hr hlk d_N_claim_20
theorem o_N_claim_7 {X : ra_X} {p : Program} {l : Launch} {e : Env} {s : State} {m : MethodId} {args : Array Value} {below : List Frame} {meth : Method} {c : Code} {Z : ra_R} {c0 c1 : ra_Sp}  (h0 : ra_MOK l X mi_N_isEight c0) (h1 : ra_MOK l X mi_N_in c1) (F : ra_Fx X p rm_N_claim s m args c prog_13_method_61_code 4 cn_N) (hr : meth.sig.returnType = (some .int)) (hlk : meth.locks = false) : ra_At X p l e rm_N_claim s m args below meth c 4 (MQ below (ra_Qc X Z) args s 0 0 (ra_A X)) (b_N_claim_7 c0 c1 Z) 7 :=
  r_iload_n F d_N_claim_7 rfl <| r_iconst F d_N_claim_8 (by decide) <| r_sipush F d_N_claim_9 (by decide) <| r_callS F h1 (co_N_in (by decide +kernel) (by decide +kernel)) ⟨rfl, by decide +kernel⟩ ml_N_101 st_N_in d_N_claim_12 <| r_if_ne F d_N_claim_15 (by decide) (o_N_claim_21 h0 h1 F hr hlk) (o_N_claim_18 h0 h1 F hr hlk)
theorem o_N_claim_0 {X : ra_X} {p : Program} {l : Launch} {e : Env} {s : State} {m : MethodId} {args : Array Value} {below : List Frame} {meth : Method} {c : Code} {Z : ra_R} {c0 c1 : ra_Sp}  (h0 : ra_MOK l X mi_N_isEight c0) (h1 : ra_MOK l X mi_N_in c1) (F : ra_Fx X p rm_N_claim s m args c prog_13_method_61_code 4 cn_N) (hr : meth.sig.returnType = (some .int)) (hlk : meth.locks = false) : ra_At X p l e rm_N_claim s m args below meth c 4 (MQ below (ra_Qc X Z) args s 0 0 (ra_A X)) (b_N_claim_0 c0 c1 Z) 0 :=
  r_iload_n F d_N_claim_0 rfl <| r_callS F h0 (co_N_isEight (by decide +kernel) (by decide +kernel)) ⟨rfl, by decide +kernel⟩ ml_N_188 st_N_isEight d_N_claim_1 <| r_if_eq F d_N_claim_4 (by decide) (o_N_claim_18 h0 h1 F hr hlk) (o_N_claim_7 h0 h1 F hr hlk)
theorem g_N_claim {l : Launch} {X : ra_X} {c0 c1 : ra_Sp}  (h0 : ra_MOK l X mi_N_isEight c0) (h1 : ra_MOK l X mi_N_in c1) (sp : ra_Sp) (ve : ∀ as σ Z, ra_c1 as = true → as.length = 3 → sp as σ Z → b_N_claim_0 c0 c1 Z (ra_pad 4 as) [] σ) : ra_MOK l X mi_N_claim sp := by
  refine ra_enter (k := fun Z as σ => b_N_claim_0 c0 c1 Z) cn_N rfl (by decide +kernel) ⟨by decide +kernel, by decide +kernel⟩ (by decide +kernel) ?_ ve
  intro p e s m args below meth c Z as σ hsp F hr hlk
  exact o_N_claim_0 h0 h1 F hr hlk

theorem d_N_liarsNow_0 : decode prog_13_method_62_code 0 = .ok (.aload_n 0, 1) := by decide +kernel
theorem d_N_liarsNow_1 : decode prog_13_method_62_code 1 = .ok (.aload_n 0, 1) := by decide +kernel
theorem d_N_liarsNow_2 : decode prog_13_method_62_code 2 = .ok (.getfield 147, 3) := by decide +kernel
theorem d_N_liarsNow_5 : decode prog_13_method_62_code 5 = .ok (.invokevirtual 166, 3) := by decide +kernel
theorem d_N_liarsNow_8 : decode prog_13_method_62_code 8 = .ok (.iconst 0, 1) := by decide +kernel
theorem d_N_liarsNow_9 : decode prog_13_method_62_code 9 = .ok (.istore_n 1, 1) := by decide +kernel
theorem d_N_liarsNow_10 : decode prog_13_method_62_code 10 = .ok (.iconst 0, 1) := by decide +kernel
theorem d_N_liarsNow_11 : decode prog_13_method_62_code 11 = .ok (.istore_n 2, 1) := by decide +kernel
theorem d_N_liarsNow_12 : decode prog_13_method_62_code 12 = .ok (.iload_n 2, 1) := by decide +kernel
theorem d_N_liarsNow_13 : decode prog_13_method_62_code 13 = .ok (.aload_n 0, 1) := by decide +kernel
theorem d_N_liarsNow_14 : decode prog_13_method_62_code 14 = .ok (.getfield 109, 3) := by decide +kernel
theorem d_N_liarsNow_17 : decode prog_13_method_62_code 17 = .ok (.if_icmp .ge 44, 3) := by decide +kernel
theorem d_N_liarsNow_20 : decode prog_13_method_62_code 20 = .ok (.iload_n 1, 1) := by decide +kernel
theorem d_N_liarsNow_21 : decode prog_13_method_62_code 21 = .ok (.aload_n 0, 1) := by decide +kernel
theorem d_N_liarsNow_22 : decode prog_13_method_62_code 22 = .ok (.getfield 34, 3) := by decide +kernel
theorem d_N_liarsNow_25 : decode prog_13_method_62_code 25 = .ok (.iload_n 2, 1) := by decide +kernel
theorem d_N_liarsNow_26 : decode prog_13_method_62_code 26 = .ok (.iaload, 1) := by decide +kernel
theorem d_N_liarsNow_27 : decode prog_13_method_62_code 27 = .ok (.iconst (-1), 1) := by decide +kernel
theorem d_N_liarsNow_28 : decode prog_13_method_62_code 28 = .ok (.if_icmp .eq 24, 3) := by decide +kernel
theorem d_N_liarsNow_31 : decode prog_13_method_62_code 31 = .ok (.aload_n 0, 1) := by decide +kernel
theorem d_N_liarsNow_32 : decode prog_13_method_62_code 32 = .ok (.getfield 34, 3) := by decide +kernel
theorem d_N_liarsNow_35 : decode prog_13_method_62_code 35 = .ok (.iload_n 2, 1) := by decide +kernel
theorem d_N_liarsNow_36 : decode prog_13_method_62_code 36 = .ok (.iaload, 1) := by decide +kernel
theorem d_N_liarsNow_37 : decode prog_13_method_62_code 37 = .ok (.aload_n 0, 1) := by decide +kernel
theorem d_N_liarsNow_38 : decode prog_13_method_62_code 38 = .ok (.getfield 46, 3) := by decide +kernel
theorem d_N_liarsNow_41 : decode prog_13_method_62_code 41 = .ok (.iload_n 2, 1) := by decide +kernel
theorem d_N_liarsNow_42 : decode prog_13_method_62_code 42 = .ok (.iaload, 1) := by decide +kernel
theorem d_N_liarsNow_43 : decode prog_13_method_62_code 43 = .ok (.if_icmp .eq 9, 3) := by decide +kernel
theorem d_N_liarsNow_46 : decode prog_13_method_62_code 46 = .ok (.iconst 1, 1) := by decide +kernel
theorem d_N_liarsNow_47 : decode prog_13_method_62_code 47 = .ok (.iload_n 2, 1) := by decide +kernel
theorem d_N_liarsNow_48 : decode prog_13_method_62_code 48 = .ok (.ishl, 1) := by decide +kernel
theorem d_N_liarsNow_49 : decode prog_13_method_62_code 49 = .ok (.goto 4, 3) := by decide +kernel
theorem d_N_liarsNow_52 : decode prog_13_method_62_code 52 = .ok (.iconst 0, 1) := by decide +kernel
theorem d_N_liarsNow_53 : decode prog_13_method_62_code 53 = .ok (.ior, 1) := by decide +kernel
theorem d_N_liarsNow_54 : decode prog_13_method_62_code 54 = .ok (.istore_n 1, 1) := by decide +kernel
theorem d_N_liarsNow_55 : decode prog_13_method_62_code 55 = .ok (.iinc 2 1, 3) := by decide +kernel
theorem d_N_liarsNow_58 : decode prog_13_method_62_code 58 = .ok (.goto (-46), 3) := by decide +kernel
theorem d_N_liarsNow_61 : decode prog_13_method_62_code 61 = .ok (.iload_n 1, 1) := by decide +kernel
theorem d_N_liarsNow_62 : decode prog_13_method_62_code 62 = .ok (.ireturn, 1) := by decide +kernel
def b_N_liarsNow_61 (c0 : ra_Sp) (I : Nat → ra_K) (Z : ra_R) : ra_K := w_il 1 <| w_ir Z
def b_N_liarsNow_53 (c0 : ra_Sp) (I : Nat → ra_K) (Z : ra_R) : ra_K := w_i2 (fun x y => x ||| y) <| w_is 1 <| w_inc 2 1 <| (I 12)
def b_N_liarsNow_52 (c0 : ra_Sp) (I : Nat → ra_K) (Z : ra_R) : ra_K := w_c 0 <| (b_N_liarsNow_53 c0 I Z)
def b_N_liarsNow_46 (c0 : ra_Sp) (I : Nat → ra_K) (Z : ra_R) : ra_K := w_c 1 <| w_il 2 <| w_i2 (fun x y => x <<< (y &&& 31)) <| (b_N_liarsNow_53 c0 I Z)
def b_N_liarsNow_31 (c0 : ra_Sp) (I : Nat → ra_K) (Z : ra_R) : ra_K := w_al 0 <| w_gr 11 10 <| w_il 2 <| w_ald <| w_al 0 <| w_gr 11 14 <| w_il 2 <| w_ald <| w_b2 (fun x y => x = y) (b_N_liarsNow_52 c0 I Z) (b_N_liarsNow_46 c0 I Z)
def b_N_liarsNow_20 (c0 : ra_Sp) (I : Nat → ra_K) (Z : ra_R) : ra_K := w_il 1 <| w_al 0 <| w_gr 11 10 <| w_il 2 <| w_ald <| w_c (-1) <| w_b2 (fun x y => x = y) (b_N_liarsNow_52 c0 I Z) (b_N_liarsNow_31 c0 I Z)
def b_N_liarsNow_12 (c0 : ra_Sp) (I : Nat → ra_K) (Z : ra_R) : ra_K := w_il 2 <| w_al 0 <| w_gi 11 2 <| w_b2 (fun x y => y ≤ x) (b_N_liarsNow_61 c0 I Z) (b_N_liarsNow_20 c0 I Z)
def b_N_liarsNow_0 (c0 : ra_Sp) (I : Nat → ra_K) (Z : ra_R) : ra_K := w_al 0 <| w_al 0 <| w_gi 11 7 <| w_cv c0 2 11 <| w_c 0 <| w_is 1 <| w_c 0 <| w_is 2 <| (I 12)
theorem o_N_liarsNow_61 {X : ra_X} {p : Program} {l : Launch} {e : Env} {s : State} {m : MethodId} {args : Array Value} {below : List Frame} {meth : Method} {c : Code} {Z : ra_R} {c0 : ra_Sp}  (h0 : ra_MOK l X mi_N_lays c0) (F : ra_Fx X p rm_N_liarsNow s m args c prog_13_method_62_code 3 cn_N) (hr : meth.sig.returnType = (some .int)) (hlk : meth.locks = false) {I : Nat → ra_K} (hI : ∀ t ∈ [12], ra_At X p l e rm_N_liarsNow s m args below meth c 3 (MQ below (ra_Qc X Z) args s 0 0 (ra_A X)) (I t) t) : ra_At X p l e rm_N_liarsNow s m args below meth c 3 (MQ below (ra_Qc X Z) args s 0 0 (ra_A X)) (b_N_liarsNow_61 c0 I Z) 61 :=
  r_iload_n F d_N_liarsNow_61 rfl <| r_ireturn F hr hlk d_N_liarsNow_62
theorem o_N_liarsNow_53 {X : ra_X} {p : Program} {l : Launch} {e : Env} {s : State} {m : MethodId} {args : Array Value} {below : List Frame} {meth : Method} {c : Code} {Z : ra_R} {c0 : ra_Sp}  (h0 : ra_MOK l X mi_N_lays c0) (F : ra_Fx X p rm_N_liarsNow s m args c prog_13_method_62_code 3 cn_N) (hr : meth.sig.returnType = (some .int)) (hlk : meth.locks = false) {I : Nat → ra_K} (hI : ∀ t ∈ [12], ra_At X p l e rm_N_liarsNow s m args below meth c 3 (MQ below (ra_Qc X Z) args s 0 0 (ra_A X)) (I t) t) : ra_At X p l e rm_N_liarsNow s m args below meth c 3 (MQ below (ra_Qc X Z) args s 0 0 (ra_A X)) (b_N_liarsNow_53 c0 I Z) 53 :=
  r_ior F d_N_liarsNow_53 <| r_istore_n F d_N_liarsNow_54 rfl (by decide) <| r_iinc F d_N_liarsNow_55 (by decide) (by decide) <| r_goto F d_N_liarsNow_58 (by decide) (hI 12 (by decide))
theorem o_N_liarsNow_52 {X : ra_X} {p : Program} {l : Launch} {e : Env} {s : State} {m : MethodId} {args : Array Value} {below : List Frame} {meth : Method} {c : Code} {Z : ra_R} {c0 : ra_Sp}  (h0 : ra_MOK l X mi_N_lays c0) (F : ra_Fx X p rm_N_liarsNow s m args c prog_13_method_62_code 3 cn_N) (hr : meth.sig.returnType = (some .int)) (hlk : meth.locks = false) {I : Nat → ra_K} (hI : ∀ t ∈ [12], ra_At X p l e rm_N_liarsNow s m args below meth c 3 (MQ below (ra_Qc X Z) args s 0 0 (ra_A X)) (I t) t) : ra_At X p l e rm_N_liarsNow s m args below meth c 3 (MQ below (ra_Qc X Z) args s 0 0 (ra_A X)) (b_N_liarsNow_52 c0 I Z) 52 :=
  r_iconst F d_N_liarsNow_52 (by decide) <| (o_N_liarsNow_53 h0 F hr hlk hI)
theorem o_N_liarsNow_46 {X : ra_X} {p : Program} {l : Launch} {e : Env} {s : State} {m : MethodId} {args : Array Value} {below : List Frame} {meth : Method} {c : Code} {Z : ra_R} {c0 : ra_Sp}  (h0 : ra_MOK l X mi_N_lays c0) (F : ra_Fx X p rm_N_liarsNow s m args c prog_13_method_62_code 3 cn_N) (hr : meth.sig.returnType = (some .int)) (hlk : meth.locks = false) {I : Nat → ra_K} (hI : ∀ t ∈ [12], ra_At X p l e rm_N_liarsNow s m args below meth c 3 (MQ below (ra_Qc X Z) args s 0 0 (ra_A X)) (I t) t) : ra_At X p l e rm_N_liarsNow s m args below meth c 3 (MQ below (ra_Qc X Z) args s 0 0 (ra_A X)) (b_N_liarsNow_46 c0 I Z) 46 :=
  r_iconst F d_N_liarsNow_46 (by decide) <| r_iload_n F d_N_liarsNow_47 rfl <| r_ishl F d_N_liarsNow_48 <| r_goto F d_N_liarsNow_49 (by decide) (o_N_liarsNow_53 h0 F hr hlk hI)
theorem o_N_liarsNow_31 {X : ra_X} {p : Program} {l : Launch} {e : Env} {s : State} {m : MethodId} {args : Array Value} {below : List Frame} {meth : Method} {c : Code} {Z : ra_R} {c0 : ra_Sp}  (h0 : ra_MOK l X mi_N_lays c0) (F : ra_Fx X p rm_N_liarsNow s m args c prog_13_method_62_code 3 cn_N) (hr : meth.sig.returnType = (some .int)) (hlk : meth.locks = false) {I : Nat → ra_K} (hI : ∀ t ∈ [12], ra_At X p l e rm_N_liarsNow s m args below meth c 3 (MQ below (ra_Qc X Z) args s 0 0 (ra_A X)) (I t) t) : ra_At X p l e rm_N_liarsNow s m args below meth c 3 (MQ below (ra_Qc X Z) args s 0 0 (ra_A X)) (b_N_liarsNow_31 c0 I Z) 31 :=
  r_aload_n F d_N_liarsNow_31 rfl <| r_getR F cg_N (j := 10) (by decide) rfl fl_N_34 d_N_liarsNow_32 <| r_iload_n F d_N_liarsNow_35 rfl <| r_iaload F d_N_liarsNow_36 <| r_aload_n F d_N_liarsNow_37 rfl <| r_getR F cg_N (j := 14) (by decide) rfl fl_N_46 d_N_liarsNow_38 <| r_iload_n F d_N_liarsNow_41 rfl <| r_iaload F d_N_liarsNow_42 <| r_icmp_eq F d_N_liarsNow_43 (by decide) (o_N_liarsNow_52 h0 F hr hlk hI) (o_N_liarsNow_46 h0 F hr hlk hI)
theorem o_N_liarsNow_20 {X : ra_X} {p : Program} {l : Launch} {e : Env} {s : State} {m : MethodId} {args : Array Value} {below : List Frame} {meth : Method} {c : Code} {Z : ra_R} {c0 : ra_Sp}  (h0 : ra_MOK l X mi_N_lays c0) (F : ra_Fx X p rm_N_liarsNow s m args c prog_13_method_62_code 3 cn_N) (hr : meth.sig.returnType = (some .int)) (hlk : meth.locks = false) {I : Nat → ra_K} (hI : ∀ t ∈ [12], ra_At X p l e rm_N_liarsNow s m args below meth c 3 (MQ below (ra_Qc X Z) args s 0 0 (ra_A X)) (I t) t) : ra_At X p l e rm_N_liarsNow s m args below meth c 3 (MQ below (ra_Qc X Z) args s 0 0 (ra_A X)) (b_N_liarsNow_20 c0 I Z) 20 :=
  r_iload_n F d_N_liarsNow_20 rfl <| r_aload_n F d_N_liarsNow_21 rfl <| r_getR F cg_N (j := 10) (by decide) rfl fl_N_34 d_N_liarsNow_22 <| r_iload_n F d_N_liarsNow_25 rfl <| r_iaload F d_N_liarsNow_26 <| r_iconst F d_N_liarsNow_27 (by decide) <| r_icmp_eq F d_N_liarsNow_28 (by decide) (o_N_liarsNow_52 h0 F hr hlk hI) (o_N_liarsNow_31 h0 F hr hlk hI)
theorem o_N_liarsNow_12 {X : ra_X} {p : Program} {l : Launch} {e : Env} {s : State} {m : MethodId} {args : Array Value} {below : List Frame} {meth : Method} {c : Code} {Z : ra_R} {c0 : ra_Sp}  (h0 : ra_MOK l X mi_N_lays c0) (F : ra_Fx X p rm_N_liarsNow s m args c prog_13_method_62_code 3 cn_N) (hr : meth.sig.returnType = (some .int)) (hlk : meth.locks = false) {I : Nat → ra_K} (hI : ∀ t ∈ [12], ra_At X p l e rm_N_liarsNow s m args below meth c 3 (MQ below (ra_Qc X Z) args s 0 0 (ra_A X)) (I t) t) : ra_At X p l e rm_N_liarsNow s m args below meth c 3 (MQ below (ra_Qc X Z) args s 0 0 (ra_A X)) (b_N_liarsNow_12 c0 I Z) 12 :=
  r_iload_n F d_N_liarsNow_12 rfl <| r_aload_n F d_N_liarsNow_13 rfl <| r_getI F cg_N (j := 2) (by decide) rfl fl_N_109 d_N_liarsNow_14 <| r_icmp_ge F d_N_liarsNow_17 (by decide) (o_N_liarsNow_61 h0 F hr hlk hI) (o_N_liarsNow_20 h0 F hr hlk hI)
theorem o_N_liarsNow_0 {X : ra_X} {p : Program} {l : Launch} {e : Env} {s : State} {m : MethodId} {args : Array Value} {below : List Frame} {meth : Method} {c : Code} {Z : ra_R} {c0 : ra_Sp}  (h0 : ra_MOK l X mi_N_lays c0) (F : ra_Fx X p rm_N_liarsNow s m args c prog_13_method_62_code 3 cn_N) (hr : meth.sig.returnType = (some .int)) (hlk : meth.locks = false) {I : Nat → ra_K} (hI : ∀ t ∈ [12], ra_At X p l e rm_N_liarsNow s m args below meth c 3 (MQ below (ra_Qc X Z) args s 0 0 (ra_A X)) (I t) t) : ra_At X p l e rm_N_liarsNow s m args below meth c 3 (MQ below (ra_Qc X Z) args s 0 0 (ra_A X)) (b_N_liarsNow_0 c0 I Z) 0 :=
  r_aload_n F d_N_liarsNow_0 rfl <| r_aload_n F d_N_liarsNow_1 rfl <| r_getI F cg_N (j := 7) (by decide) rfl fl_N_147 d_N_liarsNow_2 <| r_callV F h0 (co_N_lays (by decide +kernel) (by decide +kernel)) ⟨rfl, by decide +kernel⟩ ⟨rfl, by decide⟩ ml_N_166 im_N_lays se_N_lays d_N_liarsNow_5 <| r_iconst F d_N_liarsNow_8 (by decide) <| r_istore_n F d_N_liarsNow_9 rfl (by decide) <| r_iconst F d_N_liarsNow_10 (by decide) <| r_istore_n F d_N_liarsNow_11 rfl (by decide) <| (hI 12 (by decide))
theorem g_N_liarsNow {l : Launch} {X : ra_X} {c0 : ra_Sp}  (h0 : ra_MOK l X mi_N_lays c0) (sp : ra_Sp) (I : ra_R → List Value → ra_St → Nat → ra_M → ra_K) (ve : ∀ as σ Z, ra_c1 as = true → as.length = 1 → sp as σ Z → b_N_liarsNow_0 c0 (ra_I (I Z as σ)) Z (ra_pad 3 as) [] σ) (v12 : ∀ as σ Z, sp as σ Z → ∀ μ L S σ1, I Z as σ 12 μ L S σ1 → b_N_liarsNow_12 c0 (ra_J (I Z as σ) μ) Z L S σ1) : ra_MOK l X mi_N_liarsNow sp := by
  refine ra_enter (k := fun Z as σ => b_N_liarsNow_0 c0 (ra_I (I Z as σ)) Z) cn_N rfl (by decide +kernel) ⟨by decide +kernel, by decide +kernel⟩ (by decide +kernel) ?_ ve
  intro p e s m args below meth c Z as σ hsp F hr hlk
  refine o_N_liarsNow_0 h0 F hr hlk (ra_cuts (b := fun t J => if t = 12 then b_N_liarsNow_12 c0 J Z else fun _ _ _ => False) ?_ ?_)
  · intro t ht J hJ
    simp only [List.mem_cons, List.not_mem_nil, or_false] at ht
    rcases ht with rfl
    · exact o_N_liarsNow_12 h0 F hr hlk hJ
  · intro t ht μ L S σ1 hI
    simp only [List.mem_cons, List.not_mem_nil, or_false] at ht
    rcases ht with rfl
    · exact v12 as σ Z hsp μ L S σ1 hI

theorem d_N_liars_0 : decode prog_13_method_63_code 0 = .ok (.aload_n 0, 1) := by decide +kernel
theorem d_N_liars_1 : decode prog_13_method_63_code 1 = .ok (.invokevirtual 227, 3) := by decide +kernel
theorem d_N_liars_4 : decode prog_13_method_63_code 4 = .ok (.ireturn, 1) := by decide +kernel
def b_N_liars_0 (c0 : ra_Sp) (Z : ra_R) : ra_K := w_al 0 <| w_cv c0 1 11 <| w_ir Z
theorem o_N_liars_0 {X : ra_X} {p : Program} {l : Launch} {e : Env} {s : State} {m : MethodId} {args : Array Value} {below : List Frame} {meth : Method} {c : Code} {Z : ra_R} {c0 : ra_Sp}  (h0 : ra_MOK l X mi_N_liarsNow c0) (F : ra_Fx X p rm_N_liars s m args c prog_13_method_63_code 1 cn_N) (hr : meth.sig.returnType = (some .int)) (hlk : meth.locks = false) : ra_At X p l e rm_N_liars s m args below meth c 1 (MQ below (ra_Qc X Z) args s 0 0 (ra_A X)) (b_N_liars_0 c0 Z) 0 :=
  r_aload_n F d_N_liars_0 rfl <| r_callV F h0 (co_N_liarsNow (by decide +kernel) (by decide +kernel)) ⟨rfl, by decide +kernel⟩ ⟨rfl, by decide⟩ ml_N_227 im_N_liarsNow se_N_liarsNow d_N_liars_1 <| r_ireturn F hr hlk d_N_liars_4
theorem g_N_liars {l : Launch} {X : ra_X} {c0 : ra_Sp}  (h0 : ra_MOK l X mi_N_liarsNow c0) (sp : ra_Sp) (ve : ∀ as σ Z, ra_c1 as = true → as.length = 1 → sp as σ Z → b_N_liars_0 c0 Z (ra_pad 1 as) [] σ) : ra_MOK l X mi_N_liars sp := by
  refine ra_enter (k := fun Z as σ => b_N_liars_0 c0 Z) cn_N rfl (by decide +kernel) ⟨by decide +kernel, by decide +kernel⟩ (by decide +kernel) ?_ ve
  intro p e s m args below meth c Z as σ hsp F hr hlk
  exact o_N_liars_0 h0 F hr hlk

theorem d_N_sheet_0 : decode prog_13_method_66_code 0 = .ok (.iload_n 1, 1) := by decide +kernel
theorem d_N_sheet_1 : decode prog_13_method_66_code 1 = .ok (.invokestatic 153, 3) := by decide +kernel
theorem d_N_sheet_4 : decode prog_13_method_66_code 4 = .ok (.ifCond .eq 18, 3) := by decide +kernel
theorem d_N_sheet_7 : decode prog_13_method_66_code 7 = .ok (.iload_n 2, 1) := by decide +kernel
theorem d_N_sheet_8 : decode prog_13_method_66_code 8 = .ok (.iconst 0, 1) := by decide +kernel
theorem d_N_sheet_9 : decode prog_13_method_66_code 9 = .ok (.iconst 2, 1) := by decide +kernel
theorem d_N_sheet_10 : decode prog_13_method_66_code 10 = .ok (.invokestatic 101, 3) := by decide +kernel
theorem d_N_sheet_13 : decode prog_13_method_66_code 13 = .ok (.ifCond .eq 9, 3) := by decide +kernel
theorem d_N_sheet_16 : decode prog_13_method_66_code 16 = .ok (.iload_n 3, 1) := by decide +kernel
theorem d_N_sheet_17 : decode prog_13_method_66_code 17 = .ok (.bipush 48, 2) := by decide +kernel
theorem d_N_sheet_19 : decode prog_13_method_66_code 19 = .ok (.if_icmp .le 6, 3) := by decide +kernel
theorem d_N_sheet_22 : decode prog_13_method_66_code 22 = .ok (.bipush (-2), 2) := by decide +kernel
theorem d_N_sheet_24 : decode prog_13_method_66_code 24 = .ok (.ireturn, 1) := by decide +kernel
theorem d_N_sheet_25 : decode prog_13_method_66_code 25 = .ok (.iload_n 3, 1) := by decide +kernel
theorem d_N_sheet_26 : decode prog_13_method_66_code 26 = .ok (.ifCond .ge 9, 3) := by decide +kernel
theorem d_N_sheet_29 : decode prog_13_method_66_code 29 = .ok (.aload_n 0, 1) := by decide +kernel
theorem d_N_sheet_30 : decode prog_13_method_66_code 30 = .ok (.iconst 5, 1) := by decide +kernel
theorem d_N_sheet_31 : decode prog_13_method_66_code 31 = .ok (.invokevirtual 156, 3) := by decide +kernel
theorem d_N_sheet_34 : decode prog_13_method_66_code 34 = .ok (.ireturn, 1) := by decide +kernel
theorem d_N_sheet_35 : decode prog_13_method_66_code 35 = .ok (.aload_n 0, 1) := by decide +kernel
theorem d_N_sheet_36 : decode prog_13_method_66_code 36 = .ok (.getfield 85, 3) := by decide +kernel
theorem d_N_sheet_39 : decode prog_13_method_66_code 39 = .ok (.iload_n 1, 1) := by decide +kernel
theorem d_N_sheet_40 : decode prog_13_method_66_code 40 = .ok (.iconst 1, 1) := by decide +kernel
theorem d_N_sheet_41 : decode prog_13_method_66_code 41 = .ok (.bastore, 1) := by decide +kernel
theorem d_N_sheet_42 : decode prog_13_method_66_code 42 = .ok (.aload_n 0, 1) := by decide +kernel
theorem d_N_sheet_43 : decode prog_13_method_66_code 43 = .ok (.getfield 89, 3) := by decide +kernel
theorem d_N_sheet_46 : decode prog_13_method_66_code 46 = .ok (.iload_n 1, 1) := by decide +kernel
theorem d_N_sheet_47 : decode prog_13_method_66_code 47 = .ok (.iload_n 2, 1) := by decide +kernel
theorem d_N_sheet_48 : decode prog_13_method_66_code 48 = .ok (.iastore, 1) := by decide +kernel
theorem d_N_sheet_49 : decode prog_13_method_66_code 49 = .ok (.aload_n 0, 1) := by decide +kernel
theorem d_N_sheet_50 : decode prog_13_method_66_code 50 = .ok (.getfield 92, 3) := by decide +kernel
theorem d_N_sheet_53 : decode prog_13_method_66_code 53 = .ok (.iload_n 1, 1) := by decide +kernel
theorem d_N_sheet_54 : decode prog_13_method_66_code 54 = .ok (.iload_n 3, 1) := by decide +kernel
theorem d_N_sheet_55 : decode prog_13_method_66_code 55 = .ok (.iastore, 1) := by decide +kernel
theorem d_N_sheet_56 : decode prog_13_method_66_code 56 = .ok (.iconst 0, 1) := by decide +kernel
theorem d_N_sheet_57 : decode prog_13_method_66_code 57 = .ok (.istore 4, 2) := by decide +kernel
theorem d_N_sheet_59 : decode prog_13_method_66_code 59 = .ok (.iload 4, 2) := by decide +kernel
theorem d_N_sheet_61 : decode prog_13_method_66_code 61 = .ok (.bipush 48, 2) := by decide +kernel
theorem d_N_sheet_63 : decode prog_13_method_66_code 63 = .ok (.if_icmp .ge 22, 3) := by decide +kernel
theorem d_N_sheet_66 : decode prog_13_method_66_code 66 = .ok (.aload_n 0, 1) := by decide +kernel
theorem d_N_sheet_67 : decode prog_13_method_66_code 67 = .ok (.getfield 95, 3) := by decide +kernel
theorem d_N_sheet_70 : decode prog_13_method_66_code 70 = .ok (.bipush 48, 2) := by decide +kernel
theorem d_N_sheet_72 : decode prog_13_method_66_code 72 = .ok (.iload_n 1, 1) := by decide +kernel
theorem d_N_sheet_73 : decode prog_13_method_66_code 73 = .ok (.imul, 1) := by decide +kernel
theorem d_N_sheet_74 : decode prog_13_method_66_code 74 = .ok (.iload 4, 2) := by decide +kernel
theorem d_N_sheet_76 : decode prog_13_method_66_code 76 = .ok (.iadd, 1) := by decide +kernel
theorem d_N_sheet_77 : decode prog_13_method_66_code 77 = .ok (.iconst 0, 1) := by decide +kernel
theorem d_N_sheet_78 : decode prog_13_method_66_code 78 = .ok (.iastore, 1) := by decide +kernel
theorem d_N_sheet_79 : decode prog_13_method_66_code 79 = .ok (.iinc 4 1, 3) := by decide +kernel
theorem d_N_sheet_82 : decode prog_13_method_66_code 82 = .ok (.goto (-23), 3) := by decide +kernel
theorem d_N_sheet_85 : decode prog_13_method_66_code 85 = .ok (.iload_n 3, 1) := by decide +kernel
theorem d_N_sheet_86 : decode prog_13_method_66_code 86 = .ok (.ireturn, 1) := by decide +kernel
def b_N_sheet_85 (c0 c1 c2 : ra_Sp) (I : Nat → ra_K) (Z : ra_R) : ra_K := w_il 3 <| w_ir Z
def b_N_sheet_66 (c0 c1 c2 : ra_Sp) (I : Nat → ra_K) (Z : ra_R) : ra_K := w_al 0 <| w_gr 11 31 <| w_c 48 <| w_il 1 <| w_i2 (fun x y => x * y) <| w_il 4 <| w_i2 (fun x y => x + y) <| w_c 0 <| w_ast <| w_inc 4 1 <| (I 59)
def b_N_sheet_59 (c0 c1 c2 : ra_Sp) (I : Nat → ra_K) (Z : ra_R) : ra_K := w_il 4 <| w_c 48 <| w_b2 (fun x y => y ≤ x) (b_N_sheet_85 c0 c1 c2 I Z) (b_N_sheet_66 c0 c1 c2 I Z)
def b_N_sheet_35 (c0 c1 c2 : ra_Sp) (I : Nat → ra_K) (Z : ra_R) : ra_K := w_al 0 <| w_gr 11 28 <| w_il 1 <| w_c 1 <| w_zst <| w_al 0 <| w_gr 11 29 <| w_il 1 <| w_il 2 <| w_ast <| w_al 0 <| w_gr 11 30 <| w_il 1 <| w_il 3 <| w_ast <| w_c 0 <| w_is 4 <| (I 59)
def b_N_sheet_29 (c0 c1 c2 : ra_Sp) (I : Nat → ra_K) (Z : ra_R) : ra_K := w_al 0 <| w_c 5 <| w_cv c2 2 11 <| w_ir Z
def b_N_sheet_25 (c0 c1 c2 : ra_Sp) (I : Nat → ra_K) (Z : ra_R) : ra_K := w_il 3 <| w_b1 (fun x => 0 ≤ x) (b_N_sheet_35 c0 c1 c2 I Z) (b_N_sheet_29 c0 c1 c2 I Z)
def b_N_sheet_22 (c0 c1 c2 : ra_Sp) (I : Nat → ra_K) (Z : ra_R) : ra_K := w_c (-2) <| w_ir Z
def b_N_sheet_16 (c0 c1 c2 : ra_Sp) (I : Nat → ra_K) (Z : ra_R) : ra_K := w_il 3 <| w_c 48 <| w_b2 (fun x y => x ≤ y) (b_N_sheet_25 c0 c1 c2 I Z) (b_N_sheet_22 c0 c1 c2 I Z)
def b_N_sheet_7 (c0 c1 c2 : ra_Sp) (I : Nat → ra_K) (Z : ra_R) : ra_K := w_il 2 <| w_c 0 <| w_c 2 <| w_cs c1 3 <| w_b1 (fun x => x = 0) (b_N_sheet_22 c0 c1 c2 I Z) (b_N_sheet_16 c0 c1 c2 I Z)
def b_N_sheet_0 (c0 c1 c2 : ra_Sp) (I : Nat → ra_K) (Z : ra_R) : ra_K := w_il 1 <| w_cs c0 1 <| w_b1 (fun x => x = 0) (b_N_sheet_22 c0 c1 c2 I Z) (b_N_sheet_7 c0 c1 c2 I Z)
theorem o_N_sheet_85 {X : ra_X} {p : Program} {l : Launch} {e : Env} {s : State} {m : MethodId} {args : Array Value} {below : List Frame} {meth : Method} {c : Code} {Z : ra_R} {c0 c1 c2 : ra_Sp}  (h0 : ra_MOK l X mi_N_isSheet c0) (h1 : ra_MOK l X mi_N_in c1) (h2 : ra_MOK l X mi_N_meets c2) (F : ra_Fx X p rm_N_sheet s m args c prog_13_method_66_code 5 cn_N) (hr : meth.sig.returnType = (some .int)) (hlk : meth.locks = false) {I : Nat → ra_K} (hI : ∀ t ∈ [59], ra_At X p l e rm_N_sheet s m args below meth c 5 (MQ below (ra_Qc X Z) args s 0 0 (ra_A X)) (I t) t) : ra_At X p l e rm_N_sheet s m args below meth c 5 (MQ below (ra_Qc X Z) args s 0 0 (ra_A X)) (b_N_sheet_85 c0 c1 c2 I Z) 85 :=
  r_iload_n F d_N_sheet_85 rfl <| r_ireturn F hr hlk d_N_sheet_86
theorem o_N_sheet_66 {X : ra_X} {p : Program} {l : Launch} {e : Env} {s : State} {m : MethodId} {args : Array Value} {below : List Frame} {meth : Method} {c : Code} {Z : ra_R} {c0 c1 c2 : ra_Sp}  (h0 : ra_MOK l X mi_N_isSheet c0) (h1 : ra_MOK l X mi_N_in c1) (h2 : ra_MOK l X mi_N_meets c2) (F : ra_Fx X p rm_N_sheet s m args c prog_13_method_66_code 5 cn_N) (hr : meth.sig.returnType = (some .int)) (hlk : meth.locks = false) {I : Nat → ra_K} (hI : ∀ t ∈ [59], ra_At X p l e rm_N_sheet s m args below meth c 5 (MQ below (ra_Qc X Z) args s 0 0 (ra_A X)) (I t) t) : ra_At X p l e rm_N_sheet s m args below meth c 5 (MQ below (ra_Qc X Z) args s 0 0 (ra_A X)) (b_N_sheet_66 c0 c1 c2 I Z) 66 :=
  r_aload_n F d_N_sheet_66 rfl <| r_getR F cg_N (j := 31) (by decide) rfl fl_N_95 d_N_sheet_67 <| r_bipush F d_N_sheet_70 (by decide) <| r_iload_n F d_N_sheet_72 rfl <| r_imul F d_N_sheet_73 <| r_iload F d_N_sheet_74 <| r_iadd F d_N_sheet_76 <| r_iconst F d_N_sheet_77 (by decide) <| r_iastore F d_N_sheet_78 <| r_iinc F d_N_sheet_79 (by decide) (by decide) <| r_goto F d_N_sheet_82 (by decide) (hI 59 (by decide))
theorem o_N_sheet_59 {X : ra_X} {p : Program} {l : Launch} {e : Env} {s : State} {m : MethodId} {args : Array Value} {below : List Frame} {meth : Method} {c : Code} {Z : ra_R} {c0 c1 c2 : ra_Sp}  (h0 : ra_MOK l X mi_N_isSheet c0) (h1 : ra_MOK l X mi_N_in c1) (h2 : ra_MOK l X mi_N_meets c2) (F : ra_Fx X p rm_N_sheet s m args c prog_13_method_66_code 5 cn_N) (hr : meth.sig.returnType = (some .int)) (hlk : meth.locks = false) {I : Nat → ra_K} (hI : ∀ t ∈ [59], ra_At X p l e rm_N_sheet s m args below meth c 5 (MQ below (ra_Qc X Z) args s 0 0 (ra_A X)) (I t) t) : ra_At X p l e rm_N_sheet s m args below meth c 5 (MQ below (ra_Qc X Z) args s 0 0 (ra_A X)) (b_N_sheet_59 c0 c1 c2 I Z) 59 :=
  r_iload F d_N_sheet_59 <| r_bipush F d_N_sheet_61 (by decide) <| r_icmp_ge F d_N_sheet_63 (by decide) (o_N_sheet_85 h0 h1 h2 F hr hlk hI) (o_N_sheet_66 h0 h1 h2 F hr hlk hI)
theorem o_N_sheet_35 {X : ra_X} {p : Program} {l : Launch} {e : Env} {s : State} {m : MethodId} {args : Array Value} {below : List Frame} {meth : Method} {c : Code} {Z : ra_R} {c0 c1 c2 : ra_Sp}  (h0 : ra_MOK l X mi_N_isSheet c0) (h1 : ra_MOK l X mi_N_in c1) (h2 : ra_MOK l X mi_N_meets c2) (F : ra_Fx X p rm_N_sheet s m args c prog_13_method_66_code 5 cn_N) (hr : meth.sig.returnType = (some .int)) (hlk : meth.locks = false) {I : Nat → ra_K} (hI : ∀ t ∈ [59], ra_At X p l e rm_N_sheet s m args below meth c 5 (MQ below (ra_Qc X Z) args s 0 0 (ra_A X)) (I t) t) : ra_At X p l e rm_N_sheet s m args below meth c 5 (MQ below (ra_Qc X Z) args s 0 0 (ra_A X)) (b_N_sheet_35 c0 c1 c2 I Z) 35 :=
  r_aload_n F d_N_sheet_35 rfl <| r_getR F cg_N (j := 28) (by decide) rfl fl_N_85 d_N_sheet_36 <| r_iload_n F d_N_sheet_39 rfl <| r_iconst F d_N_sheet_40 (by decide) <| r_bastore F d_N_sheet_41 <| r_aload_n F d_N_sheet_42 rfl <| r_getR F cg_N (j := 29) (by decide) rfl fl_N_89 d_N_sheet_43 <| r_iload_n F d_N_sheet_46 rfl <| r_iload_n F d_N_sheet_47 rfl <| r_iastore F d_N_sheet_48 <| r_aload_n F d_N_sheet_49 rfl <| r_getR F cg_N (j := 30) (by decide) rfl fl_N_92 d_N_sheet_50 <| r_iload_n F d_N_sheet_53 rfl <| r_iload_n F d_N_sheet_54 rfl <| r_iastore F d_N_sheet_55 <| r_iconst F d_N_sheet_56 (by decide) <| r_istore F d_N_sheet_57 (by decide) <| (hI 59 (by decide))
theorem o_N_sheet_29 {X : ra_X} {p : Program} {l : Launch} {e : Env} {s : State} {m : MethodId} {args : Array Value} {below : List Frame} {meth : Method} {c : Code} {Z : ra_R} {c0 c1 c2 : ra_Sp}  (h0 : ra_MOK l X mi_N_isSheet c0) (h1 : ra_MOK l X mi_N_in c1) (h2 : ra_MOK l X mi_N_meets c2) (F : ra_Fx X p rm_N_sheet s m args c prog_13_method_66_code 5 cn_N) (hr : meth.sig.returnType = (some .int)) (hlk : meth.locks = false) {I : Nat → ra_K} (hI : ∀ t ∈ [59], ra_At X p l e rm_N_sheet s m args below meth c 5 (MQ below (ra_Qc X Z) args s 0 0 (ra_A X)) (I t) t) : ra_At X p l e rm_N_sheet s m args below meth c 5 (MQ below (ra_Qc X Z) args s 0 0 (ra_A X)) (b_N_sheet_29 c0 c1 c2 I Z) 29 :=
  r_aload_n F d_N_sheet_29 rfl <| r_iconst F d_N_sheet_30 (by decide) <| r_callV F h2 (co_N_meets (by decide +kernel) (by decide +kernel)) ⟨rfl, by decide +kernel⟩ ⟨rfl, by decide⟩ ml_N_156 im_N_meets se_N_meets d_N_sheet_31 <| r_ireturn F hr hlk d_N_sheet_34
theorem o_N_sheet_25 {X : ra_X} {p : Program} {l : Launch} {e : Env} {s : State} {m : MethodId} {args : Array Value} {below : List Frame} {meth : Method} {c : Code} {Z : ra_R} {c0 c1 c2 : ra_Sp}  (h0 : ra_MOK l X mi_N_isSheet c0) (h1 : ra_MOK l X mi_N_in c1) (h2 : ra_MOK l X mi_N_meets c2) (F : ra_Fx X p rm_N_sheet s m args c prog_13_method_66_code 5 cn_N) (hr : meth.sig.returnType = (some .int)) (hlk : meth.locks = false) {I : Nat → ra_K} (hI : ∀ t ∈ [59], ra_At X p l e rm_N_sheet s m args below meth c 5 (MQ below (ra_Qc X Z) args s 0 0 (ra_A X)) (I t) t) : ra_At X p l e rm_N_sheet s m args below meth c 5 (MQ below (ra_Qc X Z) args s 0 0 (ra_A X)) (b_N_sheet_25 c0 c1 c2 I Z) 25 :=
  r_iload_n F d_N_sheet_25 rfl <| r_if_ge F d_N_sheet_26 (by decide) (o_N_sheet_35 h0 h1 h2 F hr hlk hI) (o_N_sheet_29 h0 h1 h2 F hr hlk hI)
theorem o_N_sheet_22 {X : ra_X} {p : Program} {l : Launch} {e : Env} {s : State} {m : MethodId} {args : Array Value} {below : List Frame} {meth : Method} {c : Code} {Z : ra_R} {c0 c1 c2 : ra_Sp}  (h0 : ra_MOK l X mi_N_isSheet c0) (h1 : ra_MOK l X mi_N_in c1) (h2 : ra_MOK l X mi_N_meets c2) (F : ra_Fx X p rm_N_sheet s m args c prog_13_method_66_code 5 cn_N) (hr : meth.sig.returnType = (some .int)) (hlk : meth.locks = false) {I : Nat → ra_K} (hI : ∀ t ∈ [59], ra_At X p l e rm_N_sheet s m args below meth c 5 (MQ below (ra_Qc X Z) args s 0 0 (ra_A X)) (I t) t) : ra_At X p l e rm_N_sheet s m args below meth c 5 (MQ below (ra_Qc X Z) args s 0 0 (ra_A X)) (b_N_sheet_22 c0 c1 c2 I Z) 22 :=
  r_bipush F d_N_sheet_22 (by decide) <| r_ireturn F hr hlk d_N_sheet_24
theorem o_N_sheet_16 {X : ra_X} {p : Program} {l : Launch} {e : Env} {s : State} {m : MethodId} {args : Array Value} {below : List Frame} {meth : Method} {c : Code} {Z : ra_R} {c0 c1 c2 : ra_Sp}  (h0 : ra_MOK l X mi_N_isSheet c0) (h1 : ra_MOK l X mi_N_in c1) (h2 : ra_MOK l X mi_N_meets c2) (F : ra_Fx X p rm_N_sheet s m args c prog_13_method_66_code 5 cn_N) (hr : meth.sig.returnType = (some .int)) (hlk : meth.locks = false) {I : Nat → ra_K} (hI : ∀ t ∈ [59], ra_At X p l e rm_N_sheet s m args below meth c 5 (MQ below (ra_Qc X Z) args s 0 0 (ra_A X)) (I t) t) : ra_At X p l e rm_N_sheet s m args below meth c 5 (MQ below (ra_Qc X Z) args s 0 0 (ra_A X)) (b_N_sheet_16 c0 c1 c2 I Z) 16 :=
  r_iload_n F d_N_sheet_16 rfl <| r_bipush F d_N_sheet_17 (by decide) <| r_icmp_le F d_N_sheet_19 (by decide) (o_N_sheet_25 h0 h1 h2 F hr hlk hI) (o_N_sheet_22 h0 h1 h2 F hr hlk hI)
theorem o_N_sheet_7 {X : ra_X} {p : Program} {l : Launch} {e : Env} {s : State} {m : MethodId} {args : Array Value} {below : List Frame} {meth : Method} {c : Code} {Z : ra_R} {c0 c1 c2 : ra_Sp}  (h0 : ra_MOK l X mi_N_isSheet c0) (h1 : ra_MOK l X mi_N_in c1) (h2 : ra_MOK l X mi_N_meets c2) (F : ra_Fx X p rm_N_sheet s m args c prog_13_method_66_code 5 cn_N) (hr : meth.sig.returnType = (some .int)) (hlk : meth.locks = false) {I : Nat → ra_K} (hI : ∀ t ∈ [59], ra_At X p l e rm_N_sheet s m args below meth c 5 (MQ below (ra_Qc X Z) args s 0 0 (ra_A X)) (I t) t) : ra_At X p l e rm_N_sheet s m args below meth c 5 (MQ below (ra_Qc X Z) args s 0 0 (ra_A X)) (b_N_sheet_7 c0 c1 c2 I Z) 7 :=
  r_iload_n F d_N_sheet_7 rfl <| r_iconst F d_N_sheet_8 (by decide) <| r_iconst F d_N_sheet_9 (by decide) <| r_callS F h1 (co_N_in (by decide +kernel) (by decide +kernel)) ⟨rfl, by decide +kernel⟩ ml_N_101 st_N_in d_N_sheet_10 <| r_if_eq F d_N_sheet_13 (by decide) (o_N_sheet_22 h0 h1 h2 F hr hlk hI) (o_N_sheet_16 h0 h1 h2 F hr hlk hI)
theorem o_N_sheet_0 {X : ra_X} {p : Program} {l : Launch} {e : Env} {s : State} {m : MethodId} {args : Array Value} {below : List Frame} {meth : Method} {c : Code} {Z : ra_R} {c0 c1 c2 : ra_Sp}  (h0 : ra_MOK l X mi_N_isSheet c0) (h1 : ra_MOK l X mi_N_in c1) (h2 : ra_MOK l X mi_N_meets c2) (F : ra_Fx X p rm_N_sheet s m args c prog_13_method_66_code 5 cn_N) (hr : meth.sig.returnType = (some .int)) (hlk : meth.locks = false) {I : Nat → ra_K} (hI : ∀ t ∈ [59], ra_At X p l e rm_N_sheet s m args below meth c 5 (MQ below (ra_Qc X Z) args s 0 0 (ra_A X)) (I t) t) : ra_At X p l e rm_N_sheet s m args below meth c 5 (MQ below (ra_Qc X Z) args s 0 0 (ra_A X)) (b_N_sheet_0 c0 c1 c2 I Z) 0 :=
  r_iload_n F d_N_sheet_0 rfl <| r_callS F h0 (co_N_isSheet (by decide +kernel) (by decide +kernel)) ⟨rfl, by decide +kernel⟩ ml_N_153 st_N_isSheet d_N_sheet_1 <| r_if_eq F d_N_sheet_4 (by decide) (o_N_sheet_22 h0 h1 h2 F hr hlk hI) (o_N_sheet_7 h0 h1 h2 F hr hlk hI)
theorem g_N_sheet {l : Launch} {X : ra_X} {c0 c1 c2 : ra_Sp}  (h0 : ra_MOK l X mi_N_isSheet c0) (h1 : ra_MOK l X mi_N_in c1) (h2 : ra_MOK l X mi_N_meets c2) (sp : ra_Sp) (I : ra_R → List Value → ra_St → Nat → ra_M → ra_K) (ve : ∀ as σ Z, ra_c1 as = true → as.length = 4 → sp as σ Z → b_N_sheet_0 c0 c1 c2 (ra_I (I Z as σ)) Z (ra_pad 5 as) [] σ) (v59 : ∀ as σ Z, sp as σ Z → ∀ μ L S σ1, I Z as σ 59 μ L S σ1 → b_N_sheet_59 c0 c1 c2 (ra_J (I Z as σ) μ) Z L S σ1) : ra_MOK l X mi_N_sheet sp := by
  refine ra_enter (k := fun Z as σ => b_N_sheet_0 c0 c1 c2 (ra_I (I Z as σ)) Z) cn_N rfl (by decide +kernel) ⟨by decide +kernel, by decide +kernel⟩ (by decide +kernel) ?_ ve
  intro p e s m args below meth c Z as σ hsp F hr hlk
  refine o_N_sheet_0 h0 h1 h2 F hr hlk (ra_cuts (b := fun t J => if t = 59 then b_N_sheet_59 c0 c1 c2 J Z else fun _ _ _ => False) ?_ ?_)
  · intro t ht J hJ
    simp only [List.mem_cons, List.not_mem_nil, or_false] at ht
    rcases ht with rfl
    · exact o_N_sheet_59 h0 h1 h2 F hr hlk hJ
  · intro t ht μ L S σ1 hI
    simp only [List.mem_cons, List.not_mem_nil, or_false] at ht
    rcases ht with rfl
    · exact v59 as σ Z hsp μ L S σ1 hI

theorem d_N_lose_0 : decode prog_13_method_67_code 0 = .ok (.iload_n 1, 1) := by decide +kernel
theorem d_N_lose_1 : decode prog_13_method_67_code 1 = .ok (.invokestatic 153, 3) := by decide +kernel
theorem d_N_lose_4 : decode prog_13_method_67_code 4 = .ok (.ifCond .ne 6, 3) := by decide +kernel
theorem d_N_lose_7 : decode prog_13_method_67_code 7 = .ok (.bipush (-2), 2) := by decide +kernel
theorem d_N_lose_9 : decode prog_13_method_67_code 9 = .ok (.ireturn, 1) := by decide +kernel
theorem d_N_lose_10 : decode prog_13_method_67_code 10 = .ok (.aload_n 0, 1) := by decide +kernel
theorem d_N_lose_11 : decode prog_13_method_67_code 11 = .ok (.getfield 85, 3) := by decide +kernel
theorem d_N_lose_14 : decode prog_13_method_67_code 14 = .ok (.iload_n 1, 1) := by decide +kernel
theorem d_N_lose_15 : decode prog_13_method_67_code 15 = .ok (.baload, 1) := by decide +kernel
theorem d_N_lose_16 : decode prog_13_method_67_code 16 = .ok (.ifCond .ne 9, 3) := by decide +kernel
theorem d_N_lose_19 : decode prog_13_method_67_code 19 = .ok (.aload_n 0, 1) := by decide +kernel
theorem d_N_lose_20 : decode prog_13_method_67_code 20 = .ok (.iconst 1, 1) := by decide +kernel
theorem d_N_lose_21 : decode prog_13_method_67_code 21 = .ok (.invokevirtual 156, 3) := by decide +kernel
theorem d_N_lose_24 : decode prog_13_method_67_code 24 = .ok (.ireturn, 1) := by decide +kernel
theorem d_N_lose_25 : decode prog_13_method_67_code 25 = .ok (.aload_n 0, 1) := by decide +kernel
theorem d_N_lose_26 : decode prog_13_method_67_code 26 = .ok (.getfield 85, 3) := by decide +kernel
theorem d_N_lose_29 : decode prog_13_method_67_code 29 = .ok (.iload_n 1, 1) := by decide +kernel
theorem d_N_lose_30 : decode prog_13_method_67_code 30 = .ok (.iconst 0, 1) := by decide +kernel
theorem d_N_lose_31 : decode prog_13_method_67_code 31 = .ok (.bastore, 1) := by decide +kernel
theorem d_N_lose_32 : decode prog_13_method_67_code 32 = .ok (.aload_n 0, 1) := by decide +kernel
theorem d_N_lose_33 : decode prog_13_method_67_code 33 = .ok (.getfield 92, 3) := by decide +kernel
theorem d_N_lose_36 : decode prog_13_method_67_code 36 = .ok (.iload_n 1, 1) := by decide +kernel
theorem d_N_lose_37 : decode prog_13_method_67_code 37 = .ok (.iaload, 1) := by decide +kernel
theorem d_N_lose_38 : decode prog_13_method_67_code 38 = .ok (.ireturn, 1) := by decide +kernel
def b_N_lose_25 (c0 c1 : ra_Sp) (Z : ra_R) : ra_K := w_al 0 <| w_gr 11 28 <| w_il 1 <| w_c 0 <| w_zst <| w_al 0 <| w_gr 11 30 <| w_il 1 <| w_ald <| w_ir Z
def b_N_lose_19 (c0 c1 : ra_Sp) (Z : ra_R) : ra_K := w_al 0 <| w_c 1 <| w_cv c1 2 11 <| w_ir Z
def b_N_lose_10 (c0 c1 : ra_Sp) (Z : ra_R) : ra_K := w_al 0 <| w_gr 11 28 <| w_il 1 <| w_zld <| w_b1 (fun x => x = 0) (b_N_lose_19 c0 c1 Z) (b_N_lose_25 c0 c1 Z)
def b_N_lose_7 (c0 c1 : ra_Sp) (Z : ra_R) : ra_K := w_c (-2) <| w_ir Z
def b_N_lose_0 (c0 c1 : ra_Sp) (Z : ra_R) : ra_K := w_il 1 <| w_cs c0 1 <| w_b1 (fun x => x = 0) (b_N_lose_7 c0 c1 Z) (b_N_lose_10 c0 c1 Z)
theorem o_N_lose_25 {X : ra_X} {p : Program} {l : Launch} {e : Env} {s : State} {m : MethodId} {args : Array Value} {below : List Frame} {meth : Method} {c : Code} {Z : ra_R} {c0 c1 : ra_Sp}  (h0 : ra_MOK l X mi_N_isSheet c0) (h1 : ra_MOK l X mi_N_meets c1) (F : ra_Fx X p rm_N_lose s m args c prog_13_method_67_code 2 cn_N) (hr : meth.sig.returnType = (some .int)) (hlk : meth.locks = false) : ra_At X p l e rm_N_lose s m args below meth c 2 (MQ below (ra_Qc X Z) args s 0 0 (ra_A X)) (b_N_lose_25 c0 c1 Z) 25 :=
  r_aload_n F d_N_lose_25 rfl <| r_getR F cg_N (j := 28) (by decide) rfl fl_N_85 d_N_lose_26 <| r_iload_n F d_N_lose_29 rfl <| r_iconst F d_N_lose_30 (by decide) <| r_bastore F d_N_lose_31 <| r_aload_n F d_N_lose_32 rfl <| r_getR F cg_N (j := 30) (by decide) rfl fl_N_92 d_N_lose_33 <| r_iload_n F d_N_lose_36 rfl <| r_iaload F d_N_lose_37 <| r_ireturn F hr hlk d_N_lose_38
theorem o_N_lose_19 {X : ra_X} {p : Program} {l : Launch} {e : Env} {s : State} {m : MethodId} {args : Array Value} {below : List Frame} {meth : Method} {c : Code} {Z : ra_R} {c0 c1 : ra_Sp}  (h0 : ra_MOK l X mi_N_isSheet c0) (h1 : ra_MOK l X mi_N_meets c1) (F : ra_Fx X p rm_N_lose s m args c prog_13_method_67_code 2 cn_N) (hr : meth.sig.returnType = (some .int)) (hlk : meth.locks = false) : ra_At X p l e rm_N_lose s m args below meth c 2 (MQ below (ra_Qc X Z) args s 0 0 (ra_A X)) (b_N_lose_19 c0 c1 Z) 19 :=
  r_aload_n F d_N_lose_19 rfl <| r_iconst F d_N_lose_20 (by decide) <| r_callV F h1 (co_N_meets (by decide +kernel) (by decide +kernel)) ⟨rfl, by decide +kernel⟩ ⟨rfl, by decide⟩ ml_N_156 im_N_meets se_N_meets d_N_lose_21 <| r_ireturn F hr hlk d_N_lose_24
theorem o_N_lose_10 {X : ra_X} {p : Program} {l : Launch} {e : Env} {s : State} {m : MethodId} {args : Array Value} {below : List Frame} {meth : Method} {c : Code} {Z : ra_R} {c0 c1 : ra_Sp}  (h0 : ra_MOK l X mi_N_isSheet c0) (h1 : ra_MOK l X mi_N_meets c1) (F : ra_Fx X p rm_N_lose s m args c prog_13_method_67_code 2 cn_N) (hr : meth.sig.returnType = (some .int)) (hlk : meth.locks = false) : ra_At X p l e rm_N_lose s m args below meth c 2 (MQ below (ra_Qc X Z) args s 0 0 (ra_A X)) (b_N_lose_10 c0 c1 Z) 10 :=
  r_aload_n F d_N_lose_10 rfl <| r_getR F cg_N (j := 28) (by decide) rfl fl_N_85 d_N_lose_11 <| r_iload_n F d_N_lose_14 rfl <| r_baload F d_N_lose_15 <| r_if_ne F d_N_lose_16 (by decide) (o_N_lose_25 h0 h1 F hr hlk) (o_N_lose_19 h0 h1 F hr hlk)
theorem o_N_lose_7 {X : ra_X} {p : Program} {l : Launch} {e : Env} {s : State} {m : MethodId} {args : Array Value} {below : List Frame} {meth : Method} {c : Code} {Z : ra_R} {c0 c1 : ra_Sp}  (h0 : ra_MOK l X mi_N_isSheet c0) (h1 : ra_MOK l X mi_N_meets c1) (F : ra_Fx X p rm_N_lose s m args c prog_13_method_67_code 2 cn_N) (hr : meth.sig.returnType = (some .int)) (hlk : meth.locks = false) : ra_At X p l e rm_N_lose s m args below meth c 2 (MQ below (ra_Qc X Z) args s 0 0 (ra_A X)) (b_N_lose_7 c0 c1 Z) 7 :=
  r_bipush F d_N_lose_7 (by decide) <| r_ireturn F hr hlk d_N_lose_9
theorem o_N_lose_0 {X : ra_X} {p : Program} {l : Launch} {e : Env} {s : State} {m : MethodId} {args : Array Value} {below : List Frame} {meth : Method} {c : Code} {Z : ra_R} {c0 c1 : ra_Sp}  (h0 : ra_MOK l X mi_N_isSheet c0) (h1 : ra_MOK l X mi_N_meets c1) (F : ra_Fx X p rm_N_lose s m args c prog_13_method_67_code 2 cn_N) (hr : meth.sig.returnType = (some .int)) (hlk : meth.locks = false) : ra_At X p l e rm_N_lose s m args below meth c 2 (MQ below (ra_Qc X Z) args s 0 0 (ra_A X)) (b_N_lose_0 c0 c1 Z) 0 :=
  r_iload_n F d_N_lose_0 rfl <| r_callS F h0 (co_N_isSheet (by decide +kernel) (by decide +kernel)) ⟨rfl, by decide +kernel⟩ ml_N_153 st_N_isSheet d_N_lose_1 <| r_if_ne F d_N_lose_4 (by decide) (o_N_lose_10 h0 h1 F hr hlk) (o_N_lose_7 h0 h1 F hr hlk)
theorem g_N_lose {l : Launch} {X : ra_X} {c0 c1 : ra_Sp}  (h0 : ra_MOK l X mi_N_isSheet c0) (h1 : ra_MOK l X mi_N_meets c1) (sp : ra_Sp) (ve : ∀ as σ Z, ra_c1 as = true → as.length = 2 → sp as σ Z → b_N_lose_0 c0 c1 Z (ra_pad 2 as) [] σ) : ra_MOK l X mi_N_lose sp := by
  refine ra_enter (k := fun Z as σ => b_N_lose_0 c0 c1 Z) cn_N rfl (by decide +kernel) ⟨by decide +kernel, by decide +kernel⟩ (by decide +kernel) ?_ ve
  intro p e s m args below meth c Z as σ hsp F hr hlk
  exact o_N_lose_0 h0 h1 F hr hlk
