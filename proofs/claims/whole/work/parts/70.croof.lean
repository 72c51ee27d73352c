/-! RoofAcross() -/
def rm_Ri : Room := { frames := 3, cells := 81, slots := 2012, locals := 108 }
abbrev mi_Ri : ra_MI := (⟨cn_R, "<init>", "()V"⟩, prog_1_method_1_code, 2, none, rm_Ri, 1)
set_option maxRecDepth 100000 in
theorem jc_Ri : Cond.code (mi_Ri).1 (mi_Ri).2.1 (mi_Ri).2.2.1 (mi_Ri).2.2.2.1 ∈ ra_WS := ra_in 86 (by decide +kernel) (by decide +kernel)
set_option maxRecDepth 100000 in
theorem ji_Ri : Cond.initialized (mi_Ri).1.cls ∈ ra_WS := ra_in 62 (by decide +kernel) (by decide +kernel)
set_option maxRecDepth 100000 in
theorem jm_Ri : Cond.instanceMethod (mi_Ri).1 ∈ ra_WS := ra_in 85 (by decide +kernel) (by decide +kernel)
set_option maxRecDepth 100000 in
theorem jn_Ri : Cond.instantiable cn_R 10 ∈ ra_WS := ra_in 83 (by decide +kernel) (by decide +kernel)
set_option maxRecDepth 100000 in
theorem ml_Ri_3 : Cond.methodLink cn_R 3 Lib.objectInit ∈ ra_WS := ra_in 87 (by decide +kernel) (by decide +kernel)
set_option maxRecDepth 100000 in
theorem cl_Ri_9 : Cond.classLink cn_R 9 cn_V ∈ ra_WS := ra_in 90 (by decide +kernel) (by decide +kernel)
set_option maxRecDepth 100000 in
theorem cl_Ri_16 : Cond.classLink cn_R 16 cn_Wt ∈ ra_WS := ra_in 180 (by decide +kernel) (by decide +kernel)
set_option maxRecDepth 100000 in
theorem cl_Ri_23 : Cond.classLink cn_R 23 cn_So ∈ ra_WS := ra_in 215 (by decide +kernel) (by decide +kernel)
set_option maxRecDepth 100000 in
theorem ml_Ri_25 : Cond.methodLink cn_R 25 (mi_Soi).1 ∈ ra_WS := ra_in 217 (by decide +kernel) (by decide +kernel)
set_option maxRecDepth 100000 in
theorem cl_Ri_32 : Cond.classLink cn_R 32 cn_Mo ∈ ra_WS := ra_in 287 (by decide +kernel) (by decide +kernel)
set_option maxRecDepth 100000 in
theorem ml_Ri_34 : Cond.methodLink cn_R 34 (mi_Moi).1 ∈ ra_WS := ra_in 289 (by decide +kernel) (by decide +kernel)
set_option maxRecDepth 100000 in
theorem cl_Ri_39 : Cond.classLink cn_R 39 cn_Ex ∈ ra_WS := ra_in 322 (by decide +kernel) (by decide +kernel)
set_option maxRecDepth 100000 in
theorem ml_Ri_41 : Cond.methodLink cn_R 41 (mi_Exi).1 ∈ ra_WS := ra_in 324 (by decide +kernel) (by decide +kernel)
set_option maxRecDepth 100000 in
theorem cl_Ri_48 : Cond.classLink cn_R 48 cn_Kn ∈ ra_WS := ra_in 368 (by decide +kernel) (by decide +kernel)
set_option maxRecDepth 100000 in
theorem ml_Ri_50 : Cond.methodLink cn_R 50 (mi_Kni).1 ∈ ra_WS := ra_in 370 (by decide +kernel) (by decide +kernel)
set_option maxRecDepth 100000 in
theorem cl_Ri_55 : Cond.classLink cn_R 55 cn_He ∈ ra_WS := ra_in 414 (by decide +kernel) (by decide +kernel)
set_option maxRecDepth 100000 in
theorem ml_Ri_57 : Cond.methodLink cn_R 57 (mi_Hei).1 ∈ ra_WS := ra_in 416 (by decide +kernel) (by decide +kernel)
set_option maxRecDepth 100000 in
theorem cl_Ri_66 : Cond.classLink cn_R 66 cn_Sh ∈ ra_WS := ra_in 431 (by decide +kernel) (by decide +kernel)
theorem d_Ri_0 : decode prog_1_method_1_code 0 = .ok (.aload_n 0, 1) := by decide +kernel
theorem d_Ri_1 : decode prog_1_method_1_code 1 = .ok (.invokespecial 3, 3) := by decide +kernel
theorem d_Ri_4 : decode prog_1_method_1_code 4 = .ok (.aload_n 0, 1) := by decide +kernel
theorem d_Ri_5 : decode prog_1_method_1_code 5 = .ok (.new 9, 3) := by decide +kernel
theorem d_Ri_8 : decode prog_1_method_1_code 8 = .ok (.dup, 1) := by decide +kernel
theorem d_Ri_9 : decode prog_1_method_1_code 9 = .ok (.invokespecial 11, 3) := by decide +kernel
theorem d_Ri_12 : decode prog_1_method_1_code 12 = .ok (.putfield 12, 3) := by decide +kernel
theorem d_Ri_15 : decode prog_1_method_1_code 15 = .ok (.aload_n 0, 1) := by decide +kernel
theorem d_Ri_16 : decode prog_1_method_1_code 16 = .ok (.new 16, 3) := by decide +kernel
theorem d_Ri_19 : decode prog_1_method_1_code 19 = .ok (.dup, 1) := by decide +kernel
theorem d_Ri_20 : decode prog_1_method_1_code 20 = .ok (.invokespecial 18, 3) := by decide +kernel
theorem d_Ri_23 : decode prog_1_method_1_code 23 = .ok (.putfield 19, 3) := by decide +kernel
theorem d_Ri_26 : decode prog_1_method_1_code 26 = .ok (.aload_n 0, 1) := by decide +kernel
theorem d_Ri_27 : decode prog_1_method_1_code 27 = .ok (.new 23, 3) := by decide +kernel
theorem d_Ri_30 : decode prog_1_method_1_code 30 = .ok (.dup, 1) := by decide +kernel
theorem d_Ri_31 : decode prog_1_method_1_code 31 = .ok (.aload_n 0, 1) := by decide +kernel
theorem d_Ri_32 : decode prog_1_method_1_code 32 = .ok (.getfield 12, 3) := by decide +kernel
theorem d_Ri_35 : decode prog_1_method_1_code 35 = .ok (.aload_n 0, 1) := by decide +kernel
theorem d_Ri_36 : decode prog_1_method_1_code 36 = .ok (.getfield 19, 3) := by decide +kernel
theorem d_Ri_39 : decode prog_1_method_1_code 39 = .ok (.invokespecial 25, 3) := by decide +kernel
theorem d_Ri_42 : decode prog_1_method_1_code 42 = .ok (.putfield 28, 3) := by decide +kernel
theorem d_Ri_45 : decode prog_1_method_1_code 45 = .ok (.aload_n 0, 1) := by decide +kernel
theorem d_Ri_46 : decode prog_1_method_1_code 46 = .ok (.new 32, 3) := by decide +kernel
theorem d_Ri_49 : decode prog_1_method_1_code 49 = .ok (.dup, 1) := by decide +kernel
theorem d_Ri_50 : decode prog_1_method_1_code 50 = .ok (.aload_n 0, 1) := by decide +kernel
theorem d_Ri_51 : decode prog_1_method_1_code 51 = .ok (.getfield 12, 3) := by decide +kernel
theorem d_Ri_54 : decode prog_1_method_1_code 54 = .ok (.aload_n 0, 1) := by decide +kernel
theorem d_Ri_55 : decode prog_1_method_1_code 55 = .ok (.getfield 19, 3) := by decide +kernel
theorem d_Ri_58 : decode prog_1_method_1_code 58 = .ok (.invokespecial 34, 3) := by decide +kernel
theorem d_Ri_61 : decode prog_1_method_1_code 61 = .ok (.putfield 35, 3) := by decide +kernel
theorem d_Ri_64 : decode prog_1_method_1_code 64 = .ok (.aload_n 0, 1) := by decide +kernel
theorem d_Ri_65 : decode prog_1_method_1_code 65 = .ok (.new 39, 3) := by decide +kernel
theorem d_Ri_68 : decode prog_1_method_1_code 68 = .ok (.dup, 1) := by decide +kernel
theorem d_Ri_69 : decode prog_1_method_1_code 69 = .ok (.aload_n 0, 1) := by decide +kernel
theorem d_Ri_70 : decode prog_1_method_1_code 70 = .ok (.getfield 12, 3) := by decide +kernel
theorem d_Ri_73 : decode prog_1_method_1_code 73 = .ok (.invokespecial 41, 3) := by decide +kernel
theorem d_Ri_76 : decode prog_1_method_1_code 76 = .ok (.putfield 44, 3) := by decide +kernel
theorem d_Ri_79 : decode prog_1_method_1_code 79 = .ok (.aload_n 0, 1) := by decide +kernel
theorem d_Ri_80 : decode prog_1_method_1_code 80 = .ok (.new 48, 3) := by decide +kernel
theorem d_Ri_83 : decode prog_1_method_1_code 83 = .ok (.dup, 1) := by decide +kernel
theorem d_Ri_84 : decode prog_1_method_1_code 84 = .ok (.aload_n 0, 1) := by decide +kernel
theorem d_Ri_85 : decode prog_1_method_1_code 85 = .ok (.getfield 12, 3) := by decide +kernel
theorem d_Ri_88 : decode prog_1_method_1_code 88 = .ok (.invokespecial 50, 3) := by decide +kernel
theorem d_Ri_91 : decode prog_1_method_1_code 91 = .ok (.putfield 51, 3) := by decide +kernel
theorem d_Ri_94 : decode prog_1_method_1_code 94 = .ok (.aload_n 0, 1) := by decide +kernel
theorem d_Ri_95 : decode prog_1_method_1_code 95 = .ok (.new 55, 3) := by decide +kernel
theorem d_Ri_98 : decode prog_1_method_1_code 98 = .ok (.dup, 1) := by decide +kernel
theorem d_Ri_99 : decode prog_1_method_1_code 99 = .ok (.aload_n 0, 1) := by decide +kernel
theorem d_Ri_100 : decode prog_1_method_1_code 100 = .ok (.getfield 12, 3) := by decide +kernel
theorem d_Ri_103 : decode prog_1_method_1_code 103 = .ok (.aload_n 0, 1) := by decide +kernel
theorem d_Ri_104 : decode prog_1_method_1_code 104 = .ok (.getfield 19, 3) := by decide +kernel
theorem d_Ri_107 : decode prog_1_method_1_code 107 = .ok (.invokespecial 57, 3) := by decide +kernel
theorem d_Ri_110 : decode prog_1_method_1_code 110 = .ok (.putfield 58, 3) := by decide +kernel
theorem d_Ri_113 : decode prog_1_method_1_code 113 = .ok (.aload_n 0, 1) := by decide +kernel
theorem d_Ri_114 : decode prog_1_method_1_code 114 = .ok (.bipush 8, 2) := by decide +kernel
theorem d_Ri_116 : decode prog_1_method_1_code 116 = .ok (.newarray .int, 2) := by decide +kernel
theorem d_Ri_118 : decode prog_1_method_1_code 118 = .ok (.putfield 62, 3) := by decide +kernel
theorem d_Ri_121 : decode prog_1_method_1_code 121 = .ok (.aload_n 0, 1) := by decide +kernel
theorem d_Ri_122 : decode prog_1_method_1_code 122 = .ok (.iconst 4, 1) := by decide +kernel
theorem d_Ri_123 : decode prog_1_method_1_code 123 = .ok (.anewarray 66, 3) := by decide +kernel
theorem d_Ri_126 : decode prog_1_method_1_code 126 = .ok (.putfield 68, 3) := by decide +kernel
theorem d_Ri_129 : decode prog_1_method_1_code 129 = .ok (.iconst 0, 1) := by decide +kernel
theorem d_Ri_130 : decode prog_1_method_1_code 130 = .ok (.istore_n 1, 1) := by decide +kernel
theorem d_Ri_131 : decode prog_1_method_1_code 131 = .ok (.iload_n 1, 1) := by decide +kernel
theorem d_Ri_132 : decode prog_1_method_1_code 132 = .ok (.bipush 8, 2) := by decide +kernel
theorem d_Ri_134 : decode prog_1_method_1_code 134 = .ok (.if_icmp .ge 16, 3) := by decide +kernel
theorem d_Ri_137 : decode prog_1_method_1_code 137 = .ok (.aload_n 0, 1) := by decide +kernel
theorem d_Ri_138 : decode prog_1_method_1_code 138 = .ok (.getfield 62, 3) := by decide +kernel
theorem d_Ri_141 : decode prog_1_method_1_code 141 = .ok (.iload_n 1, 1) := by decide +kernel
theorem d_Ri_142 : decode prog_1_method_1_code 142 = .ok (.iconst (-1), 1) := by decide +kernel
theorem d_Ri_143 : decode prog_1_method_1_code 143 = .ok (.iastore, 1) := by decide +kernel
theorem d_Ri_144 : decode prog_1_method_1_code 144 = .ok (.iinc 1 1, 3) := by decide +kernel
theorem d_Ri_147 : decode prog_1_method_1_code 147 = .ok (.goto (-16), 3) := by decide +kernel
theorem d_Ri_150 : decode prog_1_method_1_code 150 = .ok (.iconst 0, 1) := by decide +kernel
theorem d_Ri_151 : decode prog_1_method_1_code 151 = .ok (.istore_n 1, 1) := by decide +kernel
theorem d_Ri_152 : decode prog_1_method_1_code 152 = .ok (.iload_n 1, 1) := by decide +kernel
theorem d_Ri_153 : decode prog_1_method_1_code 153 = .ok (.iconst 4, 1) := by decide +kernel
theorem d_Ri_154 : decode prog_1_method_1_code 154 = .ok (.if_icmp .ge 22, 3) := by decide +kernel
theorem d_Ri_157 : decode prog_1_method_1_code 157 = .ok (.aload_n 0, 1) := by decide +kernel
theorem d_Ri_158 : decode prog_1_method_1_code 158 = .ok (.getfield 68, 3) := by decide +kernel
theorem d_Ri_161 : decode prog_1_method_1_code 161 = .ok (.iload_n 1, 1) := by decide +kernel
theorem d_Ri_162 : decode prog_1_method_1_code 162 = .ok (.new 66, 3) := by decide +kernel
theorem d_Ri_165 : decode prog_1_method_1_code 165 = .ok (.dup, 1) := by decide +kernel
theorem d_Ri_166 : decode prog_1_method_1_code 166 = .ok (.invokespecial 72, 3) := by decide +kernel
theorem d_Ri_169 : decode prog_1_method_1_code 169 = .ok (.aastore, 1) := by decide +kernel
theorem d_Ri_170 : decode prog_1_method_1_code 170 = .ok (.iinc 1 1, 3) := by decide +kernel
theorem d_Ri_173 : decode prog_1_method_1_code 173 = .ok (.goto (-21), 3) := by decide +kernel
theorem d_Ri_176 : decode prog_1_method_1_code 176 = .ok (.return_, 1) := by decide +kernel
def w_Rb (kc : Nat → ClassId) (h0 q1 q3 q5 q7 q9 q11 q13 q15 q16 q17 q19 q21 q23 : Nat) (u2 u4 u6 u8 u10 u12 u14 u18 u20 u22 u24 : Nat → Nat) : va_W := [(h0, .inr (0, [.ref q1, .ref q3, .ref q5, .ref q7, .ref q9, .ref q11, .ref q13, .ref q15, .ref q16, .int 0]))] ++ ([] ++ (w_Vi kc q1 u2) ++ (w_Wti kc q3 u4) ++ (w_Soi kc q5 q1 q3 u6) ++ (w_Moi kc q7 q1 q3 u8) ++ (w_Exi kc q9 q1 u10) ++ (w_Kni kc q11 q1 u12) ++ (w_Hei kc q13 q1 q3 u14)) ++ [(q15, .inl (kc 0, 8, .inl (upd (upd (upd (upd (upd (upd (upd (upd (fun _ => 0) 0 (-1)) 1 (-1)) 2 (-1)) 3 (-1)) 4 (-1)) 5 (-1)) 6 (-1)) 7 (-1))))] ++ [(q16, .inl (kc 3, 4, .inr (.inr (.inr (.inr (va_up (va_up (va_up (va_up (fun _ => none) 0 (some q17)) 1 (some q19)) 2 (some q21)) 3 (some q23)))))))] ++ (w_Shi kc q17 u18) ++ (w_Shi kc q19 u20) ++ (w_Shi kc q21 u22) ++ (w_Shi kc q23 u24)
def w_Ri (kc : Nat → ClassId) (h0 : Nat) (u : Nat → Nat → Nat) : va_W := w_Rb kc h0 (u 0 0) (u 0 1) (u 0 2) (u 0 3) (u 0 4) (u 0 5) (u 0 6) (u 0 7) (u 0 8) (u 0 9) (u 0 10) (u 0 11) (u 0 12) (u 1) (u 2) (u 3) (u 4) (u 5) (u 6) (u 7) (u 8) (u 9) (u 10) (u 11)
set_option maxHeartbeats 4000000 in
set_option maxRecDepth 100000 in
theorem c_Ri {l : Launch} {D : va_G} (kc : Nat → ClassId) (h0 : Nat) : rz_M l D kc mi_Ri h0 0 [.null, .null, .null, .null, .null, .null, .null, .null, .null, .int 0] [] (w_Ri kc h0) := by
  refine rz_enter cn_R rfl rfl rfl (by decide +kernel) (Nat.le_of_ble_eq_true rfl) ?_
  intro p e s m below meth c ls A F hin hr hlk hP hD hl
  have hl : lv_has ls 2 [(0, .ref h0)] := hl
  have hS : va_S A s.heap s.heap [] := va_S.rf
  obtain ⟨B0, hB0, hP, hD⟩ : ∃ B : va_W, B = [] ∧ va_P D ra_cl ([(h0, .inr (0, [.null, .null, .null, .null, .null, .null, .null, .null, .null, .int 0]))] ++ B) s.heap ∧ va_D A ([(h0, .inr (0, [.null, .null, .null, .null, .null, .null, .null, .null, .null, .int 0]))] ++ B) := ⟨[], rfl, hP, hD⟩
  refine lv_aload_n F.1 F.2.1 d_Ri_0 rfl (lv_at hl 0 rfl) ?_
  refine rz_obj F ml_Ri_3 hl (by decide) (Nat.le_of_ble_eq_true rfl) d_Ri_1 ?_
  refine lv_aload_n F.1 F.2.1 d_Ri_4 rfl (lv_at hl 0 rfl) ?_
  refine rz_new F cg_V (fs := [.null, .null, .null, .null, .null, .null, .null, .null, .int 0, .int 0, .int 0, .int 0]) (fun j hj => by have : j < 12 := hj; revert j; decide) cl_Ri_9 jn_Vi ji_Vi (Nat.le_of_ble_eq_true rfl) (Nat.le_of_ble_eq_true rfl) hP hD hS d_Ri_5 (fun q1 H hP hD hS => ?_)
  refine W.widen (k := 1) (n := 12) (Nat.le_of_ble_eq_true rfl) (Nat.le_of_ble_eq_true rfl) ?_
  have hP : va_P D ra_cl ([(h0, .inr (0, [.null, .null, .null, .null, .null, .null, .null, .null, .null, .int 0]))] ++ B0 ++ [(q1, .inr (1, [.null, .null, .null, .null, .null, .null, .null, .null, .int 0, .int 0, .int 0, .int 0]))]) H := hP
  have hD : va_D A ([(h0, .inr (0, [.null, .null, .null, .null, .null, .null, .null, .null, .null, .int 0]))] ++ B0 ++ [(q1, .inr (1, [.null, .null, .null, .null, .null, .null, .null, .null, .int 0, .int 0, .int 0, .int 0]))]) := hD
  refine lv_dup F.1 F.2.1 d_Ri_8 rfl ?_
  refine rz_callN (host := "RoofAcross") (wr := [(h0, .inr (0, [.null, .null, .null, .null, .null, .null, .null, .null, .null, .int 0]))] ++ B0) (As := []) (rest := [.ref q1, .ref h0]) F (c_Vi kc q1) rfl jc_Vi ji_Vi (by decide +kernel) jm_Vi rfl ⟨by decide +kernel, by decide +kernel, by show _ = some 0; decide +kernel⟩ ⟨Nat.le_of_ble_eq_true rfl, Nat.le_of_ble_eq_true rfl⟩ ⟨Nat.le_of_ble_eq_true rfl, Nat.le_of_ble_eq_true rfl⟩ hP hD hS hl rfl (Nat.le_of_ble_eq_true rfl) d_Ri_9 (fun u2 H locs hP hD hS => ?_)
  refine W.widen (k := 11) (n := 146) (Nat.le_of_ble_eq_true rfl) (Nat.le_of_ble_eq_true rfl) ?_
  have hP : va_P D ra_cl ([(h0, .inr (0, [.null, .null, .null, .null, .null, .null, .null, .null, .null, .int 0]))] ++ B0 ++ (w_Vi kc q1 u2)) H := hP
  have hD : va_D A ([(h0, .inr (0, [.null, .null, .null, .null, .null, .null, .null, .null, .null, .int 0]))] ++ B0 ++ (w_Vi kc q1 u2)) := hD
  refine rz_putF F hin cg_R 0 rfl 0 (by decide) fl_R_12 rfl rfl rfl rfl (Nat.le_of_ble_eq_true rfl) hP hD hS d_Ri_12 (fun H locs hP hD hS => ?_)
  have hP : va_P D ra_cl ([(h0, .inr (0, [.ref q1, .null, .null, .null, .null, .null, .null, .null, .null, .int 0]))] ++ B0 ++ (w_Vi kc q1 u2)) H := hP
  have hD : va_D A ([(h0, .inr (0, [.ref q1, .null, .null, .null, .null, .null, .null, .null, .null, .int 0]))] ++ B0 ++ (w_Vi kc q1 u2)) := hD
  obtain ⟨B1, hB1, hP, hD⟩ : ∃ B : va_W, B = B0 ++ (w_Vi kc q1 u2) ∧ va_P D ra_cl ([(h0, .inr (0, [.ref q1, .null, .null, .null, .null, .null, .null, .null, .null, .int 0]))] ++ B) H ∧ va_D A ([(h0, .inr (0, [.ref q1, .null, .null, .null, .null, .null, .null, .null, .null, .int 0]))] ++ B) := ⟨_, rfl, by rw [← List.append_assoc]; exact hP, by rw [← List.append_assoc]; exact hD⟩
  refine lv_aload_n F.1 F.2.1 d_Ri_15 rfl (lv_at hl 0 rfl) ?_
  refine rz_new F cg_Wt (fs := [.null, .int 0, .int 0, .int 0, .int 0]) (fun j hj => by have : j < 5 := hj; revert j; decide) cl_Ri_16 jn_Wti ji_Wti (Nat.le_of_ble_eq_true rfl) (Nat.le_of_ble_eq_true rfl) hP hD hS d_Ri_16 (fun q3 H hP hD hS => ?_)
  refine W.widen (k := 12) (n := 151) (Nat.le_of_ble_eq_true rfl) (Nat.le_of_ble_eq_true rfl) ?_
  have hP : va_P D ra_cl ([(h0, .inr (0, [.ref q1, .null, .null, .null, .null, .null, .null, .null, .null, .int 0]))] ++ B1 ++ [(q3, .inr (3, [.null, .int 0, .int 0, .int 0, .int 0]))]) H := hP
  have hD : va_D A ([(h0, .inr (0, [.ref q1, .null, .null, .null, .null, .null, .null, .null, .null, .int 0]))] ++ B1 ++ [(q3, .inr (3, [.null, .int 0, .int 0, .int 0, .int 0]))]) := hD
  refine lv_dup F.1 F.2.1 d_Ri_19 rfl ?_
  refine rz_callN (host := "RoofAcross") (wr := [(h0, .inr (0, [.ref q1, .null, .null, .null, .null, .null, .null, .null, .null, .int 0]))] ++ B1) (As := []) (rest := [.ref q3, .ref h0]) F (c_Wti kc q3) rfl jc_Wti ji_Wti (by decide +kernel) jm_Wti rfl ⟨by decide +kernel, by decide +kernel, by show _ = some 0; decide +kernel⟩ ⟨Nat.le_of_ble_eq_true rfl, Nat.le_of_ble_eq_true rfl⟩ ⟨Nat.le_of_ble_eq_true rfl, Nat.le_of_ble_eq_true rfl⟩ hP hD hS hl rfl (Nat.le_of_ble_eq_true rfl) d_Ri_20 (fun u4 H locs hP hD hS => ?_)
  refine W.widen (k := 13) (n := 163) (Nat.le_of_ble_eq_true rfl) (Nat.le_of_ble_eq_true rfl) ?_
  have hP : va_P D ra_cl ([(h0, .inr (0, [.ref q1, .null, .null, .null, .null, .null, .null, .null, .null, .int 0]))] ++ B1 ++ (w_Wti kc q3 u4)) H := hP
  have hD : va_D A ([(h0, .inr (0, [.ref q1, .null, .null, .null, .null, .null, .null, .null, .null, .int 0]))] ++ B1 ++ (w_Wti kc q3 u4)) := hD
  refine rz_putF F hin cg_R 0 rfl 1 (by decide) fl_R_19 rfl rfl rfl rfl (Nat.le_of_ble_eq_true rfl) hP hD hS d_Ri_23 (fun H locs hP hD hS => ?_)
  have hP : va_P D ra_cl ([(h0, .inr (0, [.ref q1, .ref q3, .null, .null, .null, .null, .null, .null, .null, .int 0]))] ++ B1 ++ (w_Wti kc q3 u4)) H := hP
  have hD : va_D A ([(h0, .inr (0, [.ref q1, .ref q3, .null, .null, .null, .null, .null, .null, .null, .int 0]))] ++ B1 ++ (w_Wti kc q3 u4)) := hD
  obtain ⟨B2, hB2, hP, hD⟩ : ∃ B : va_W, B = B1 ++ (w_Wti kc q3 u4) ∧ va_P D ra_cl ([(h0, .inr (0, [.ref q1, .ref q3, .null, .null, .null, .null, .null, .null, .null, .int 0]))] ++ B) H ∧ va_D A ([(h0, .inr (0, [.ref q1, .ref q3, .null, .null, .null, .null, .null, .null, .null, .int 0]))] ++ B) := ⟨_, rfl, by rw [← List.append_assoc]; exact hP, by rw [← List.append_assoc]; exact hD⟩
  refine lv_aload_n F.1 F.2.1 d_Ri_26 rfl (lv_at hl 0 rfl) ?_
  refine rz_new F cg_So (fs := [.null, .null, .null, .null, .int 0]) (fun j hj => by have : j < 5 := hj; revert j; decide) cl_Ri_23 jn_Soi ji_Soi (Nat.le_of_ble_eq_true rfl) (Nat.le_of_ble_eq_true rfl) hP hD hS d_Ri_27 (fun q5 H hP hD hS => ?_)
  refine W.widen (k := 14) (n := 168) (Nat.le_of_ble_eq_true rfl) (Nat.le_of_ble_eq_true rfl) ?_
  have hP : va_P D ra_cl ([(h0, .inr (0, [.ref q1, .ref q3, .null, .null, .null, .null, .null, .null, .null, .int 0]))] ++ B2 ++ [(q5, .inr (5, [.null, .null, .null, .null, .int 0]))]) H := hP
  have hD : va_D A ([(h0, .inr (0, [.ref q1, .ref q3, .null, .null, .null, .null, .null, .null, .null, .int 0]))] ++ B2 ++ [(q5, .inr (5, [.null, .null, .null, .null, .int 0]))]) := hD
  refine lv_dup F.1 F.2.1 d_Ri_30 rfl ?_
  refine lv_aload_n F.1 F.2.1 d_Ri_31 rfl (lv_at hl 0 rfl) ?_
  refine rz_get F cg_R 0 rfl 0 (by decide) fl_R_12 rfl hP d_Ri_32 ?_
  refine lv_aload_n F.1 F.2.1 d_Ri_35 rfl (lv_at hl 0 rfl) ?_
  refine rz_get F cg_R 0 rfl 1 (by decide) fl_R_19 rfl hP d_Ri_36 ?_
  refine rz_callI (wr := [(h0, .inr (0, [.ref q1, .ref q3, .null, .null, .null, .null, .null, .null, .null, .int 0]))] ++ B2) (As := [.ref q1, .ref q3]) (rest := [.ref q5, .ref h0]) F (c_Soi kc q5 q1 q3) rfl jc_Soi ji_Soi ml_Ri_25 jm_Soi rfl ⟨by decide +kernel, by decide +kernel, by show _ = some 2; decide +kernel⟩ ⟨Nat.le_of_ble_eq_true rfl, Nat.le_of_ble_eq_true rfl⟩ ⟨Nat.le_of_ble_eq_true rfl, Nat.le_of_ble_eq_true rfl⟩ hP hD hS hl rfl (Nat.le_of_ble_eq_true rfl) d_Ri_39 (fun u6 H locs hP hD hS => ?_)
  refine W.widen (k := 27) (n := 655) (Nat.le_of_ble_eq_true rfl) (Nat.le_of_ble_eq_true rfl) ?_
  have hP : va_P D ra_cl ([(h0, .inr (0, [.ref q1, .ref q3, .null, .null, .null, .null, .null, .null, .null, .int 0]))] ++ B2 ++ (w_Soi kc q5 q1 q3 u6)) H := hP
  have hD : va_D A ([(h0, .inr (0, [.ref q1, .ref q3, .null, .null, .null, .null, .null, .null, .null, .int 0]))] ++ B2 ++ (w_Soi kc q5 q1 q3 u6)) := hD
  refine rz_putF F hin cg_R 0 rfl 2 (by decide) fl_R_28 rfl rfl rfl rfl (Nat.le_of_ble_eq_true rfl) hP hD hS d_Ri_42 (fun H locs hP hD hS => ?_)
  have hP : va_P D ra_cl ([(h0, .inr (0, [.ref q1, .ref q3, .ref q5, .null, .null, .null, .null, .null, .null, .int 0]))] ++ B2 ++ (w_Soi kc q5 q1 q3 u6)) H := hP
  have hD : va_D A ([(h0, .inr (0, [.ref q1, .ref q3, .ref q5, .null, .null, .null, .null, .null, .null, .int 0]))] ++ B2 ++ (w_Soi kc q5 q1 q3 u6)) := hD
  obtain ⟨B3, hB3, hP, hD⟩ : ∃ B : va_W, B = B2 ++ (w_Soi kc q5 q1 q3 u6) ∧ va_P D ra_cl ([(h0, .inr (0, [.ref q1, .ref q3, .ref q5, .null, .null, .null, .null, .null, .null, .int 0]))] ++ B) H ∧ va_D A ([(h0, .inr (0, [.ref q1, .ref q3, .ref q5, .null, .null, .null, .null, .null, .null, .int 0]))] ++ B) := ⟨_, rfl, by rw [← List.append_assoc]; exact hP, by rw [← List.append_assoc]; exact hD⟩
  refine lv_aload_n F.1 F.2.1 d_Ri_45 rfl (lv_at hl 0 rfl) ?_
  refine rz_new F cg_Mo (fs := [.null, .null, .null, .null, .null, .null, .null, .int 0]) (fun j hj => by have : j < 8 := hj; revert j; decide) cl_Ri_32 jn_Moi ji_Moi (Nat.le_of_ble_eq_true rfl) (Nat.le_of_ble_eq_true rfl) hP hD hS d_Ri_46 (fun q7 H hP hD hS => ?_)
  refine W.widen (k := 28) (n := 663) (Nat.le_of_ble_eq_true rfl) (Nat.le_of_ble_eq_true rfl) ?_
  have hP : va_P D ra_cl ([(h0, .inr (0, [.ref q1, .ref q3, .ref q5, .null, .null, .null, .null, .null, .null, .int 0]))] ++ B3 ++ [(q7, .inr (6, [.null, .null, .null, .null, .null, .null, .null, .int 0]))]) H := hP
  have hD : va_D A ([(h0, .inr (0, [.ref q1, .ref q3, .ref q5, .null, .null, .null, .null, .null, .null, .int 0]))] ++ B3 ++ [(q7, .inr (6, [.null, .null, .null, .null, .null, .null, .null, .int 0]))]) := hD
  refine lv_dup F.1 F.2.1 d_Ri_49 rfl ?_
  refine lv_aload_n F.1 F.2.1 d_Ri_50 rfl (lv_at hl 0 rfl) ?_
  refine rz_get F cg_R 0 rfl 0 (by decide) fl_R_12 rfl hP d_Ri_51 ?_
  refine lv_aload_n F.1 F.2.1 d_Ri_54 rfl (lv_at hl 0 rfl) ?_
  refine rz_get F cg_R 0 rfl 1 (by decide) fl_R_19 rfl hP d_Ri_55 ?_
  refine rz_callI (wr := [(h0, .inr (0, [.ref q1, .ref q3, .ref q5, .null, .null, .null, .null, .null, .null, .int 0]))] ++ B3) (As := [.ref q1, .ref q3]) (rest := [.ref q7, .ref h0]) F (c_Moi kc q7 q1 q3) rfl jc_Moi ji_Moi ml_Ri_34 jm_Moi rfl ⟨by decide +kernel, by decide +kernel, by show _ = some 2; decide +kernel⟩ ⟨Nat.le_of_ble_eq_true rfl, Nat.le_of_ble_eq_true rfl⟩ ⟨Nat.le_of_ble_eq_true rfl, Nat.le_of_ble_eq_true rfl⟩ hP hD hS hl rfl (Nat.le_of_ble_eq_true rfl) d_Ri_58 (fun u8 H locs hP hD hS => ?_)
  refine W.widen (k := 40) (n := 786) (Nat.le_of_ble_eq_true rfl) (Nat.le_of_ble_eq_true rfl) ?_
  have hP : va_P D ra_cl ([(h0, .inr (0, [.ref q1, .ref q3, .ref q5, .null, .null, .null, .null, .null, .null, .int 0]))] ++ B3 ++ (w_Moi kc q7 q1 q3 u8)) H := hP
  have hD : va_D A ([(h0, .inr (0, [.ref q1, .ref q3, .ref q5, .null, .null, .null, .null, .null, .null, .int 0]))] ++ B3 ++ (w_Moi kc q7 q1 q3 u8)) := hD
  refine rz_putF F hin cg_R 0 rfl 3 (by decide) fl_R_35 rfl rfl rfl rfl (Nat.le_of_ble_eq_true rfl) hP hD hS d_Ri_61 (fun H locs hP hD hS => ?_)
  have hP : va_P D ra_cl ([(h0, .inr (0, [.ref q1, .ref q3, .ref q5, .ref q7, .null, .null, .null, .null, .null, .int 0]))] ++ B3 ++ (w_Moi kc q7 q1 q3 u8)) H := hP
  have hD : va_D A ([(h0, .inr (0, [.ref q1, .ref q3, .ref q5, .ref q7, .null, .null, .null, .null, .null, .int 0]))] ++ B3 ++ (w_Moi kc q7 q1 q3 u8)) := hD
  obtain ⟨B4, hB4, hP, hD⟩ : ∃ B : va_W, B = B3 ++ (w_Moi kc q7 q1 q3 u8) ∧ va_P D ra_cl ([(h0, .inr (0, [.ref q1, .ref q3, .ref q5, .ref q7, .null, .null, .null, .null, .null, .int 0]))] ++ B) H ∧ va_D A ([(h0, .inr (0, [.ref q1, .ref q3, .ref q5, .ref q7, .null, .null, .null, .null, .null, .int 0]))] ++ B) := ⟨_, rfl, by rw [← List.append_assoc]; exact hP, by rw [← List.append_assoc]; exact hD⟩
  refine lv_aload_n F.1 F.2.1 d_Ri_64 rfl (lv_at hl 0 rfl) ?_
  refine rz_new F cg_Ex (fs := [.null, .null, .null, .null, .null, .int 0, .int 0, .int 0, .int 0, .int 0, .int 0]) (fun j hj => by have : j < 11 := hj; revert j; decide) cl_Ri_39 jn_Exi ji_Exi (Nat.le_of_ble_eq_true rfl) (Nat.le_of_ble_eq_true rfl) hP hD hS d_Ri_65 (fun q9 H hP hD hS => ?_)
  refine W.widen (k := 41) (n := 797) (Nat.le_of_ble_eq_true rfl) (Nat.le_of_ble_eq_true rfl) ?_
  have hP : va_P D ra_cl ([(h0, .inr (0, [.ref q1, .ref q3, .ref q5, .ref q7, .null, .null, .null, .null, .null, .int 0]))] ++ B4 ++ [(q9, .inr (7, [.null, .null, .null, .null, .null, .int 0, .int 0, .int 0, .int 0, .int 0, .int 0]))]) H := hP
  have hD : va_D A ([(h0, .inr (0, [.ref q1, .ref q3, .ref q5, .ref q7, .null, .null, .null, .null, .null, .int 0]))] ++ B4 ++ [(q9, .inr (7, [.null, .null, .null, .null, .null, .int 0, .int 0, .int 0, .int 0, .int 0, .int 0]))]) := hD
  refine lv_dup F.1 F.2.1 d_Ri_68 rfl ?_
  refine lv_aload_n F.1 F.2.1 d_Ri_69 rfl (lv_at hl 0 rfl) ?_
  refine rz_get F cg_R 0 rfl 0 (by decide) fl_R_12 rfl hP d_Ri_70 ?_
  refine rz_callI (wr := [(h0, .inr (0, [.ref q1, .ref q3, .ref q5, .ref q7, .null, .null, .null, .null, .null, .int 0]))] ++ B4) (As := [.ref q1]) (rest := [.ref q9, .ref h0]) F (c_Exi kc q9 q1) rfl jc_Exi ji_Exi ml_Ri_41 jm_Exi rfl ⟨by decide +kernel, by decide +kernel, by show _ = some 1; decide +kernel⟩ ⟨Nat.le_of_ble_eq_true rfl, Nat.le_of_ble_eq_true rfl⟩ ⟨Nat.le_of_ble_eq_true rfl, Nat.le_of_ble_eq_true rfl⟩ hP hD hS hl rfl (Nat.le_of_ble_eq_true rfl) d_Ri_73 (fun u10 H locs hP hD hS => ?_)
  refine W.widen (k := 53) (n := 1141) (Nat.le_of_ble_eq_true rfl) (Nat.le_of_ble_eq_true rfl) ?_
  have hP : va_P D ra_cl ([(h0, .inr (0, [.ref q1, .ref q3, .ref q5, .ref q7, .null, .null, .null, .null, .null, .int 0]))] ++ B4 ++ (w_Exi kc q9 q1 u10)) H := hP
  have hD : va_D A ([(h0, .inr (0, [.ref q1, .ref q3, .ref q5, .ref q7, .null, .null, .null, .null, .null, .int 0]))] ++ B4 ++ (w_Exi kc q9 q1 u10)) := hD
  refine rz_putF F hin cg_R 0 rfl 4 (by decide) fl_R_44 rfl rfl rfl rfl (Nat.le_of_ble_eq_true rfl) hP hD hS d_Ri_76 (fun H locs hP hD hS => ?_)
  have hP : va_P D ra_cl ([(h0, .inr (0, [.ref q1, .ref q3, .ref q5, .ref q7, .ref q9, .null, .null, .null, .null, .int 0]))] ++ B4 ++ (w_Exi kc q9 q1 u10)) H := hP
  have hD : va_D A ([(h0, .inr (0, [.ref q1, .ref q3, .ref q5, .ref q7, .ref q9, .null, .null, .null, .null, .int 0]))] ++ B4 ++ (w_Exi kc q9 q1 u10)) := hD
  obtain ⟨B5, hB5, hP, hD⟩ : ∃ B : va_W, B = B4 ++ (w_Exi kc q9 q1 u10) ∧ va_P D ra_cl ([(h0, .inr (0, [.ref q1, .ref q3, .ref q5, .ref q7, .ref q9, .null, .null, .null, .null, .int 0]))] ++ B) H ∧ va_D A ([(h0, .inr (0, [.ref q1, .ref q3, .ref q5, .ref q7, .ref q9, .null, .null, .null, .null, .int 0]))] ++ B) := ⟨_, rfl, by rw [← List.append_assoc]; exact hP, by rw [← List.append_assoc]; exact hD⟩
  refine lv_aload_n F.1 F.2.1 d_Ri_79 rfl (lv_at hl 0 rfl) ?_
  refine rz_new F cg_Kn (fs := [.null, .null, .null, .null, .null, .null, .null, .null, .int 0, .int 0, .int 0, .int 0]) (fun j hj => by have : j < 12 := hj; revert j; decide) cl_Ri_48 jn_Kni ji_Kni (Nat.le_of_ble_eq_true rfl) (Nat.le_of_ble_eq_true rfl) hP hD hS d_Ri_80 (fun q11 H hP hD hS => ?_)
  refine W.widen (k := 54) (n := 1153) (Nat.le_of_ble_eq_true rfl) (Nat.le_of_ble_eq_true rfl) ?_
  have hP : va_P D ra_cl ([(h0, .inr (0, [.ref q1, .ref q3, .ref q5, .ref q7, .ref q9, .null, .null, .null, .null, .int 0]))] ++ B5 ++ [(q11, .inr (8, [.null, .null, .null, .null, .null, .null, .null, .null, .int 0, .int 0, .int 0, .int 0]))]) H := hP
  have hD : va_D A ([(h0, .inr (0, [.ref q1, .ref q3, .ref q5, .ref q7, .ref q9, .null, .null, .null, .null, .int 0]))] ++ B5 ++ [(q11, .inr (8, [.null, .null, .null, .null, .null, .null, .null, .null, .int 0, .int 0, .int 0, .int 0]))]) := hD
  refine lv_dup F.1 F.2.1 d_Ri_83 rfl ?_
  refine lv_aload_n F.1 F.2.1 d_Ri_84 rfl (lv_at hl 0 rfl) ?_
  refine rz_get F cg_R 0 rfl 0 (by decide) fl_R_12 rfl hP d_Ri_85 ?_
  refine rz_callI (wr := [(h0, .inr (0, [.ref q1, .ref q3, .ref q5, .ref q7, .ref q9, .null, .null, .null, .null, .int 0]))] ++ B5) (As := [.ref q1]) (rest := [.ref q11, .ref h0]) F (c_Kni kc q11 q1) rfl jc_Kni ji_Kni ml_Ri_50 jm_Kni rfl ⟨by decide +kernel, by decide +kernel, by show _ = some 1; decide +kernel⟩ ⟨Nat.le_of_ble_eq_true rfl, Nat.le_of_ble_eq_true rfl⟩ ⟨Nat.le_of_ble_eq_true rfl, Nat.le_of_ble_eq_true rfl⟩ hP hD hS hl rfl (Nat.le_of_ble_eq_true rfl) d_Ri_88 (fun u12 H locs hP hD hS => ?_)
  refine W.widen (k := 69) (n := 1781) (Nat.le_of_ble_eq_true rfl) (Nat.le_of_ble_eq_true rfl) ?_
  have hP : va_P D ra_cl ([(h0, .inr (0, [.ref q1, .ref q3, .ref q5, .ref q7, .ref q9, .null, .null, .null, .null, .int 0]))] ++ B5 ++ (w_Kni kc q11 q1 u12)) H := hP
  have hD : va_D A ([(h0, .inr (0, [.ref q1, .ref q3, .ref q5, .ref q7, .ref q9, .null, .null, .null, .null, .int 0]))] ++ B5 ++ (w_Kni kc q11 q1 u12)) := hD
  refine rz_putF F hin cg_R 0 rfl 5 (by decide) fl_R_51 rfl rfl rfl rfl (Nat.le_of_ble_eq_true rfl) hP hD hS d_Ri_91 (fun H locs hP hD hS => ?_)
  have hP : va_P D ra_cl ([(h0, .inr (0, [.ref q1, .ref q3, .ref q5, .ref q7, .ref q9, .ref q11, .null, .null, .null, .int 0]))] ++ B5 ++ (w_Kni kc q11 q1 u12)) H := hP
  have hD : va_D A ([(h0, .inr (0, [.ref q1, .ref q3, .ref q5, .ref q7, .ref q9, .ref q11, .null, .null, .null, .int 0]))] ++ B5 ++ (w_Kni kc q11 q1 u12)) := hD
  obtain ⟨B6, hB6, hP, hD⟩ : ∃ B : va_W, B = B5 ++ (w_Kni kc q11 q1 u12) ∧ va_P D ra_cl ([(h0, .inr (0, [.ref q1, .ref q3, .ref q5, .ref q7, .ref q9, .ref q11, .null, .null, .null, .int 0]))] ++ B) H ∧ va_D A ([(h0, .inr (0, [.ref q1, .ref q3, .ref q5, .ref q7, .ref q9, .ref q11, .null, .null, .null, .int 0]))] ++ B) := ⟨_, rfl, by rw [← List.append_assoc]; exact hP, by rw [← List.append_assoc]; exact hD⟩
  refine lv_aload_n F.1 F.2.1 d_Ri_94 rfl (lv_at hl 0 rfl) ?_
  refine rz_new F cg_He (fs := [.null, .null, .null]) (fun j hj => by have : j < 3 := hj; revert j; decide) cl_Ri_55 jn_Hei ji_Hei (Nat.le_of_ble_eq_true rfl) (Nat.le_of_ble_eq_true rfl) hP hD hS d_Ri_95 (fun q13 H hP hD hS => ?_)
  refine W.widen (k := 70) (n := 1784) (Nat.le_of_ble_eq_true rfl) (Nat.le_of_ble_eq_true rfl) ?_
  have hP : va_P D ra_cl ([(h0, .inr (0, [.ref q1, .ref q3, .ref q5, .ref q7, .ref q9, .ref q11, .null, .null, .null, .int 0]))] ++ B6 ++ [(q13, .inr (9, [.null, .null, .null]))]) H := hP
  have hD : va_D A ([(h0, .inr (0, [.ref q1, .ref q3, .ref q5, .ref q7, .ref q9, .ref q11, .null, .null, .null, .int 0]))] ++ B6 ++ [(q13, .inr (9, [.null, .null, .null]))]) := hD
  refine lv_dup F.1 F.2.1 d_Ri_98 rfl ?_
  refine lv_aload_n F.1 F.2.1 d_Ri_99 rfl (lv_at hl 0 rfl) ?_
  refine rz_get F cg_R 0 rfl 0 (by decide) fl_R_12 rfl hP d_Ri_100 ?_
  refine lv_aload_n F.1 F.2.1 d_Ri_103 rfl (lv_at hl 0 rfl) ?_
  refine rz_get F cg_R 0 rfl 1 (by decide) fl_R_19 rfl hP d_Ri_104 ?_
  refine rz_callI (wr := [(h0, .inr (0, [.ref q1, .ref q3, .ref q5, .ref q7, .ref q9, .ref q11, .null, .null, .null, .int 0]))] ++ B6) (As := [.ref q1, .ref q3]) (rest := [.ref q13, .ref h0]) F (c_Hei kc q13 q1 q3) rfl jc_Hei ji_Hei ml_Ri_57 jm_Hei rfl ⟨by decide +kernel, by decide +kernel, by show _ = some 2; decide +kernel⟩ ⟨Nat.le_of_ble_eq_true rfl, Nat.le_of_ble_eq_true rfl⟩ ⟨Nat.le_of_ble_eq_true rfl, Nat.le_of_ble_eq_true rfl⟩ hP hD hS hl rfl (Nat.le_of_ble_eq_true rfl) d_Ri_107 (fun u14 H locs hP hD hS => ?_)
  refine W.widen (k := 71) (n := 1792) (Nat.le_of_ble_eq_true rfl) (Nat.le_of_ble_eq_true rfl) ?_
  have hP : va_P D ra_cl ([(h0, .inr (0, [.ref q1, .ref q3, .ref q5, .ref q7, .ref q9, .ref q11, .null, .null, .null, .int 0]))] ++ B6 ++ (w_Hei kc q13 q1 q3 u14)) H := hP
  have hD : va_D A ([(h0, .inr (0, [.ref q1, .ref q3, .ref q5, .ref q7, .ref q9, .ref q11, .null, .null, .null, .int 0]))] ++ B6 ++ (w_Hei kc q13 q1 q3 u14)) := hD
  refine rz_putF F hin cg_R 0 rfl 6 (by decide) fl_R_58 rfl rfl rfl rfl (Nat.le_of_ble_eq_true rfl) hP hD hS d_Ri_110 (fun H locs hP hD hS => ?_)
  have hP : va_P D ra_cl ([(h0, .inr (0, [.ref q1, .ref q3, .ref q5, .ref q7, .ref q9, .ref q11, .ref q13, .null, .null, .int 0]))] ++ B6 ++ (w_Hei kc q13 q1 q3 u14)) H := hP
  have hD : va_D A ([(h0, .inr (0, [.ref q1, .ref q3, .ref q5, .ref q7, .ref q9, .ref q11, .ref q13, .null, .null, .int 0]))] ++ B6 ++ (w_Hei kc q13 q1 q3 u14)) := hD
  obtain ⟨B7, hB7, hP, hD⟩ : ∃ B : va_W, B = B6 ++ (w_Hei kc q13 q1 q3 u14) ∧ va_P D ra_cl ([(h0, .inr (0, [.ref q1, .ref q3, .ref q5, .ref q7, .ref q9, .ref q11, .ref q13, .null, .null, .int 0]))] ++ B) H ∧ va_D A ([(h0, .inr (0, [.ref q1, .ref q3, .ref q5, .ref q7, .ref q9, .ref q11, .ref q13, .null, .null, .int 0]))] ++ B) := ⟨_, rfl, by rw [← List.append_assoc]; exact hP, by rw [← List.append_assoc]; exact hD⟩
  refine lv_aload_n F.1 F.2.1 d_Ri_113 rfl (lv_at hl 0 rfl) ?_
  refine lv_bipush (v := 8) F.1 F.2.1 d_Ri_114 (by decide) ?_
  refine rz_newI F (N := 8) rfl (by decide) (Nat.le_of_ble_eq_true rfl) (Nat.le_of_ble_eq_true rfl) hP hD hS d_Ri_116 (fun q15 H hP hD hS => ?_)
  refine W.widen (k := 72) (n := 1800) (Nat.le_of_ble_eq_true rfl) (Nat.le_of_ble_eq_true rfl) ?_
  have hP : va_P D ra_cl ([(h0, .inr (0, [.ref q1, .ref q3, .ref q5, .ref q7, .ref q9, .ref q11, .ref q13, .null, .null, .int 0]))] ++ B7 ++ [(q15, .inl (kc 0, 8, .inl (fun _ => 0)))]) H := hP
  have hD : va_D A ([(h0, .inr (0, [.ref q1, .ref q3, .ref q5, .ref q7, .ref q9, .ref q11, .ref q13, .null, .null, .int 0]))] ++ B7 ++ [(q15, .inl (kc 0, 8, .inl (fun _ => 0)))]) := hD
  refine rz_putF F hin cg_R 0 rfl 7 (by decide) fl_R_62 rfl rfl rfl rfl (Nat.le_of_ble_eq_true rfl) hP hD hS d_Ri_118 (fun H locs hP hD hS => ?_)
  have hP : va_P D ra_cl ([(h0, .inr (0, [.ref q1, .ref q3, .ref q5, .ref q7, .ref q9, .ref q11, .ref q13, .ref q15, .null, .int 0]))] ++ B7 ++ [(q15, .inl (kc 0, 8, .inl (fun _ => 0)))]) H := hP
  have hD : va_D A ([(h0, .inr (0, [.ref q1, .ref q3, .ref q5, .ref q7, .ref q9, .ref q11, .ref q13, .ref q15, .null, .int 0]))] ++ B7 ++ [(q15, .inl (kc 0, 8, .inl (fun _ => 0)))]) := hD
  refine lv_aload_n F.1 F.2.1 d_Ri_121 rfl (lv_at hl 0 rfl) ?_
  refine lv_iconst (v := 4) F.1 F.2.1 d_Ri_122 (by decide) ?_
  refine rz_newQ F (N := 4) rfl (by decide) cl_Ri_66 (Nat.le_of_ble_eq_true rfl) (Nat.le_of_ble_eq_true rfl) hP hD hS d_Ri_123 (fun q16 H hP hD hS => ?_)
  refine W.widen (k := 73) (n := 1804) (Nat.le_of_ble_eq_true rfl) (Nat.le_of_ble_eq_true rfl) ?_
  have hP : va_P D ra_cl ([(h0, .inr (0, [.ref q1, .ref q3, .ref q5, .ref q7, .ref q9, .ref q11, .ref q13, .ref q15, .null, .int 0]))] ++ B7 ++ [(q15, .inl (kc 0, 8, .inl (fun _ => 0)))] ++ [(q16, .inl (kc 3, 4, .inr (.inr (.inr (.inr (fun _ => none))))))]) H := hP
  have hD : va_D A ([(h0, .inr (0, [.ref q1, .ref q3, .ref q5, .ref q7, .ref q9, .ref q11, .ref q13, .ref q15, .null, .int 0]))] ++ B7 ++ [(q15, .inl (kc 0, 8, .inl (fun _ => 0)))] ++ [(q16, .inl (kc 3, 4, .inr (.inr (.inr (.inr (fun _ => none))))))]) := hD
  refine rz_putF F hin cg_R 0 rfl 8 (by decide) fl_R_68 rfl rfl rfl rfl (Nat.le_of_ble_eq_true rfl) hP hD hS d_Ri_126 (fun H locs hP hD hS => ?_)
  have hP : va_P D ra_cl ([(h0, .inr (0, [.ref q1, .ref q3, .ref q5, .ref q7, .ref q9, .ref q11, .ref q13, .ref q15, .ref q16, .int 0]))] ++ B7 ++ [(q15, .inl (kc 0, 8, .inl (fun _ => 0)))] ++ [(q16, .inl (kc 3, 4, .inr (.inr (.inr (.inr (fun _ => none))))))]) H := hP
  have hD : va_D A ([(h0, .inr (0, [.ref q1, .ref q3, .ref q5, .ref q7, .ref q9, .ref q11, .ref q13, .ref q15, .ref q16, .int 0]))] ++ B7 ++ [(q15, .inl (kc 0, 8, .inl (fun _ => 0)))] ++ [(q16, .inl (kc 3, 4, .inr (.inr (.inr (.inr (fun _ => none))))))]) := hD
  have hP := va_P_perm hP (perm1 _ _ _ _)
  have hD := va_D_perm hD (perm1 _ _ _ _)
  have hP : va_P D ra_cl ([(h0, .inr (0, [.ref q1, .ref q3, .ref q5, .ref q7, .ref q9, .ref q11, .ref q13, .ref q15, .ref q16, .int 0])), (q15, .inl (kc 0, 8, .inl (fun _ => 0))), (q16, .inl (kc 3, 4, .inr (.inr (.inr (.inr (fun _ => none))))))] ++ B7) H := hP
  have hD : va_D A ([(h0, .inr (0, [.ref q1, .ref q3, .ref q5, .ref q7, .ref q9, .ref q11, .ref q13, .ref q15, .ref q16, .int 0])), (q15, .inl (kc 0, 8, .inl (fun _ => 0))), (q16, .inl (kc 3, 4, .inr (.inr (.inr (.inr (fun _ => none))))))] ++ B7) := hD
  refine lv_iconst (v := 0) F.1 F.2.1 d_Ri_129 (by decide) ?_
  refine lv_istore_n (lv' := [(1, .int 0), (0, .ref h0)]) F.1 F.2.1 d_Ri_130 rfl hl (by decide) rfl (fun ls hl => ?_)
  refine lv_iload_n F.1 F.2.1 d_Ri_131 rfl (lv_at hl 0 rfl) ?_
  refine lv_bipush (v := 8) F.1 F.2.1 d_Ri_132 (by decide) ?_
  refine lv_icmp_ge (tgt := 150) F.1 F.2.1 d_Ri_134 (by decide) (fun h => absurd h (by decide)) (fun _ => ?_)
  refine lv_aload_n F.1 F.2.1 d_Ri_137 rfl (lv_at hl 1 rfl) ?_
  refine rz_get F cg_R 0 rfl 7 (by decide) fl_R_62 rfl hP d_Ri_138 ?_
  refine lv_iload_n F.1 F.2.1 d_Ri_141 rfl (lv_at hl 0 rfl) ?_
  refine lv_iconst (v := (-1)) F.1 F.2.1 d_Ri_142 (by decide) ?_
  refine va_iast F.1 F.2.1 F.2.2.2.2.2.1 hP hD hS 1 0 rfl rfl (vi (a := 0) (by decide) (by decide)) d_Ri_143 (fun H locs hP hD hS => ?_)
  have hP : va_P D ra_cl ([(h0, .inr (0, [.ref q1, .ref q3, .ref q5, .ref q7, .ref q9, .ref q11, .ref q13, .ref q15, .ref q16, .int 0])), (q15, .inl (kc 0, 8, .inl (upd (fun _ => 0) 0 (-1)))), (q16, .inl (kc 3, 4, .inr (.inr (.inr (.inr (fun _ => none))))))] ++ B7) H := hP
  have hD : va_D A ([(h0, .inr (0, [.ref q1, .ref q3, .ref q5, .ref q7, .ref q9, .ref q11, .ref q13, .ref q15, .ref q16, .int 0])), (q15, .inl (kc 0, 8, .inl (upd (fun _ => 0) 0 (-1)))), (q16, .inl (kc 3, 4, .inr (.inr (.inr (.inr (fun _ => none))))))] ++ B7) := hD
  refine lv_iinc (v := 1) (lv' := [(1, .int 1), (0, .ref h0)]) F.1 F.2.1 d_Ri_144 hl (k := 0) rfl (by decide) (by decide) rfl (fun ls hl => ?_)
  refine lv_goto (tgt := 131) F.1 F.2.1 d_Ri_147 (by decide) ?_
  refine lv_iload_n F.1 F.2.1 d_Ri_131 rfl (lv_at hl 0 rfl) ?_
  refine lv_bipush (v := 8) F.1 F.2.1 d_Ri_132 (by decide) ?_
  refine lv_icmp_ge (tgt := 150) F.1 F.2.1 d_Ri_134 (by decide) (fun h => absurd h (by decide)) (fun _ => ?_)
  refine lv_aload_n F.1 F.2.1 d_Ri_137 rfl (lv_at hl 1 rfl) ?_
  refine rz_get F cg_R 0 rfl 7 (by decide) fl_R_62 rfl hP d_Ri_138 ?_
  refine lv_iload_n F.1 F.2.1 d_Ri_141 rfl (lv_at hl 0 rfl) ?_
  refine lv_iconst (v := (-1)) F.1 F.2.1 d_Ri_142 (by decide) ?_
  refine va_iast F.1 F.2.1 F.2.2.2.2.2.1 hP hD hS 1 0 rfl rfl (vi (a := 1) (by decide) (by decide)) d_Ri_143 (fun H locs hP hD hS => ?_)
  have hP : va_P D ra_cl ([(h0, .inr (0, [.ref q1, .ref q3, .ref q5, .ref q7, .ref q9, .ref q11, .ref q13, .ref q15, .ref q16, .int 0])), (q15, .inl (kc 0, 8, .inl (upd (upd (fun _ => 0) 0 (-1)) 1 (-1)))), (q16, .inl (kc 3, 4, .inr (.inr (.inr (.inr (fun _ => none))))))] ++ B7) H := hP
  have hD : va_D A ([(h0, .inr (0, [.ref q1, .ref q3, .ref q5, .ref q7, .ref q9, .ref q11, .ref q13, .ref q15, .ref q16, .int 0])), (q15, .inl (kc 0, 8, .inl (upd (upd (fun _ => 0) 0 (-1)) 1 (-1)))), (q16, .inl (kc 3, 4, .inr (.inr (.inr (.inr (fun _ => none))))))] ++ B7) := hD
  refine lv_iinc (v := 2) (lv' := [(1, .int 2), (0, .ref h0)]) F.1 F.2.1 d_Ri_144 hl (k := 0) rfl (by decide) (by decide) rfl (fun ls hl => ?_)
  refine lv_goto (tgt := 131) F.1 F.2.1 d_Ri_147 (by decide) ?_
  refine lv_iload_n F.1 F.2.1 d_Ri_131 rfl (lv_at hl 0 rfl) ?_
  refine lv_bipush (v := 8) F.1 F.2.1 d_Ri_132 (by decide) ?_
  refine lv_icmp_ge (tgt := 150) F.1 F.2.1 d_Ri_134 (by decide) (fun h => absurd h (by decide)) (fun _ => ?_)
  refine lv_aload_n F.1 F.2.1 d_Ri_137 rfl (lv_at hl 1 rfl) ?_
  refine rz_get F cg_R 0 rfl 7 (by decide) fl_R_62 rfl hP d_Ri_138 ?_
  refine lv_iload_n F.1 F.2.1 d_Ri_141 rfl (lv_at hl 0 rfl) ?_
  refine lv_iconst (v := (-1)) F.1 F.2.1 d_Ri_142 (by decide) ?_
  refine va_iast F.1 F.2.1 F.2.2.2.2.2.1 hP hD hS 1 0 rfl rfl (vi (a := 2) (by decide) (by decide)) d_Ri_143 (fun H locs hP hD hS => ?_)
  have hP : va_P D ra_cl ([(h0, .inr (0, [.ref q1, .ref q3, .ref q5, .ref q7, .ref q9, .ref q11, .ref q13, .ref q15, .ref q16, .int 0])), (q15, .inl (kc 0, 8, .inl (upd (upd (upd (fun _ => 0) 0 (-1)) 1 (-1)) 2 (-1)))), (q16, .inl (kc 3, 4, .inr (.inr (.inr (.inr (fun _ => none))))))] ++ B7) H := hP
  have hD : va_D A ([(h0, .inr (0, [.ref q1, .ref q3, .ref q5, .ref q7, .ref q9, .ref q11, .ref q13, .ref q15, .ref q16, .int 0])), (q15, .inl (kc 0, 8, .inl (upd (upd (upd (fun _ => 0) 0 (-1)) 1 (-1)) 2 (-1)))), (q16, .inl (kc 3, 4, .inr (.inr (.inr (.inr (fun _ => none))))))] ++ B7) := hD
  refine lv_iinc (v := 3) (lv' := [(1, .int 3), (0, .ref h0)]) F.1 F.2.1 d_Ri_144 hl (k := 0) rfl (by decide) (by decide) rfl (fun ls hl => ?_)
  refine lv_goto (tgt := 131) F.1 F.2.1 d_Ri_147 (by decide) ?_
  refine lv_iload_n F.1 F.2.1 d_Ri_131 rfl (lv_at hl 0 rfl) ?_
  refine lv_bipush (v := 8) F.1 F.2.1 d_Ri_132 (by decide) ?_
  refine lv_icmp_ge (tgt := 150) F.1 F.2.1 d_Ri_134 (by decide) (fun h => absurd h (by decide)) (fun _ => ?_)
  refine lv_aload_n F.1 F.2.1 d_Ri_137 rfl (lv_at hl 1 rfl) ?_
  refine rz_get F cg_R 0 rfl 7 (by decide) fl_R_62 rfl hP d_Ri_138 ?_
  refine lv_iload_n F.1 F.2.1 d_Ri_141 rfl (lv_at hl 0 rfl) ?_
  refine lv_iconst (v := (-1)) F.1 F.2.1 d_Ri_142 (by decide) ?_
  refine va_iast F.1 F.2.1 F.2.2.2.2.2.1 hP hD hS 1 0 rfl rfl (vi (a := 3) (by decide) (by decide)) d_Ri_143 (fun H locs hP hD hS => ?_)
  have hP : va_P D ra_cl ([(h0, .inr (0, [.ref q1, .ref q3, .ref q5, .ref q7, .ref q9, .ref q11, .ref q13, .ref q15, .ref q16, .int 0])), (q15, .inl (kc 0, 8, .inl (upd (upd (upd (upd (fun _ => 0) 0 (-1)) 1 (-1)) 2 (-1)) 3 (-1)))), (q16, .inl (kc 3, 4, .inr (.inr (.inr (.inr (fun _ => none))))))] ++ B7) H := hP
  have hD : va_D A ([(h0, .inr (0, [.ref q1, .ref q3, .ref q5, .ref q7, .ref q9, .ref q11, .ref q13, .ref q15, .ref q16, .int 0])), (q15, .inl (kc 0, 8, .inl (upd (upd (upd (upd (fun _ => 0) 0 (-1)) 1 (-1)) 2 (-1)) 3 (-1)))), (q16, .inl (kc 3, 4, .inr (.inr (.inr (.inr (fun _ => none))))))] ++ B7) := hD
  refine lv_iinc (v := 4) (lv' := [(1, .int 4), (0, .ref h0)]) F.1 F.2.1 d_Ri_144 hl (k := 0) rfl (by decide) (by decide) rfl (fun ls hl => ?_)
  refine lv_goto (tgt := 131) F.1 F.2.1 d_Ri_147 (by decide) ?_
  refine lv_iload_n F.1 F.2.1 d_Ri_131 rfl (lv_at hl 0 rfl) ?_
  refine lv_bipush (v := 8) F.1 F.2.1 d_Ri_132 (by decide) ?_
  refine lv_icmp_ge (tgt := 150) F.1 F.2.1 d_Ri_134 (by decide) (fun h => absurd h (by decide)) (fun _ => ?_)
  refine lv_aload_n F.1 F.2.1 d_Ri_137 rfl (lv_at hl 1 rfl) ?_
  refine rz_get F cg_R 0 rfl 7 (by decide) fl_R_62 rfl hP d_Ri_138 ?_
  refine lv_iload_n F.1 F.2.1 d_Ri_141 rfl (lv_at hl 0 rfl) ?_
  refine lv_iconst (v := (-1)) F.1 F.2.1 d_Ri_142 (by decide) ?_
  refine va_iast F.1 F.2.1 F.2.2.2.2.2.1 hP hD hS 1 0 rfl rfl (vi (a := 4) (by decide) (by decide)) d_Ri_143 (fun H locs hP hD hS => ?_)
  have hP : va_P D ra_cl ([(h0, .inr (0, [.ref q1, .ref q3, .ref q5, .ref q7, .ref q9, .ref q11, .ref q13, .ref q15, .ref q16, .int 0])), (q15, .inl (kc 0, 8, .inl (upd (upd (upd (upd (upd (fun _ => 0) 0 (-1)) 1 (-1)) 2 (-1)) 3 (-1)) 4 (-1)))), (q16, .inl (kc 3, 4, .inr (.inr (.inr (.inr (fun _ => none))))))] ++ B7) H := hP
  have hD : va_D A ([(h0, .inr (0, [.ref q1, .ref q3, .ref q5, .ref q7, .ref q9, .ref q11, .ref q13, .ref q15, .ref q16, .int 0])), (q15, .inl (kc 0, 8, .inl (upd (upd (upd (upd (upd (fun _ => 0) 0 (-1)) 1 (-1)) 2 (-1)) 3 (-1)) 4 (-1)))), (q16, .inl (kc 3, 4, .inr (.inr (.inr (.inr (fun _ => none))))))] ++ B7) := hD
  refine lv_iinc (v := 5) (lv' := [(1, .int 5), (0, .ref h0)]) F.1 F.2.1 d_Ri_144 hl (k := 0) rfl (by decide) (by decide) rfl (fun ls hl => ?_)
  refine lv_goto (tgt := 131) F.1 F.2.1 d_Ri_147 (by decide) ?_
  refine lv_iload_n F.1 F.2.1 d_Ri_131 rfl (lv_at hl 0 rfl) ?_
  refine lv_bipush (v := 8) F.1 F.2.1 d_Ri_132 (by decide) ?_
  refine lv_icmp_ge (tgt := 150) F.1 F.2.1 d_Ri_134 (by decide) (fun h => absurd h (by decide)) (fun _ => ?_)
  refine lv_aload_n F.1 F.2.1 d_Ri_137 rfl (lv_at hl 1 rfl) ?_
  refine rz_get F cg_R 0 rfl 7 (by decide) fl_R_62 rfl hP d_Ri_138 ?_
  refine lv_iload_n F.1 F.2.1 d_Ri_141 rfl (lv_at hl 0 rfl) ?_
  refine lv_iconst (v := (-1)) F.1 F.2.1 d_Ri_142 (by decide) ?_
  refine va_iast F.1 F.2.1 F.2.2.2.2.2.1 hP hD hS 1 0 rfl rfl (vi (a := 5) (by decide) (by decide)) d_Ri_143 (fun H locs hP hD hS => ?_)
  have hP : va_P D ra_cl ([(h0, .inr (0, [.ref q1, .ref q3, .ref q5, .ref q7, .ref q9, .ref q11, .ref q13, .ref q15, .ref q16, .int 0])), (q15, .inl (kc 0, 8, .inl (upd (upd (upd (upd (upd (upd (fun _ => 0) 0 (-1)) 1 (-1)) 2 (-1)) 3 (-1)) 4 (-1)) 5 (-1)))), (q16, .inl (kc 3, 4, .inr (.inr (.inr (.inr (fun _ => none))))))] ++ B7) H := hP
  have hD : va_D A ([(h0, .inr (0, [.ref q1, .ref q3, .ref q5, .ref q7, .ref q9, .ref q11, .ref q13, .ref q15, .ref q16, .int 0])), (q15, .inl (kc 0, 8, .inl (upd (upd (upd (upd (upd (upd (fun _ => 0) 0 (-1)) 1 (-1)) 2 (-1)) 3 (-1)) 4 (-1)) 5 (-1)))), (q16, .inl (kc 3, 4, .inr (.inr (.inr (.inr (fun _ => none))))))] ++ B7) := hD
  refine lv_iinc (v := 6) (lv' := [(1, .int 6), (0, .ref h0)]) F.1 F.2.1 d_Ri_144 hl (k := 0) rfl (by decide) (by decide) rfl (fun ls hl => ?_)
  refine lv_goto (tgt := 131) F.1 F.2.1 d_Ri_147 (by decide) ?_
  refine lv_iload_n F.1 F.2.1 d_Ri_131 rfl (lv_at hl 0 rfl) ?_
  refine lv_bipush (v := 8) F.1 F.2.1 d_Ri_132 (by decide) ?_
  refine lv_icmp_ge (tgt := 150) F.1 F.2.1 d_Ri_134 (by decide) (fun h => absurd h (by decide)) (fun _ => ?_)
  refine lv_aload_n F.1 F.2.1 d_Ri_137 rfl (lv_at hl 1 rfl) ?_
  refine rz_get F cg_R 0 rfl 7 (by decide) fl_R_62 rfl hP d_Ri_138 ?_
  refine lv_iload_n F.1 F.2.1 d_Ri_141 rfl (lv_at hl 0 rfl) ?_
  refine lv_iconst (v := (-1)) F.1 F.2.1 d_Ri_142 (by decide) ?_
  refine va_iast F.1 F.2.1 F.2.2.2.2.2.1 hP hD hS 1 0 rfl rfl (vi (a := 6) (by decide) (by decide)) d_Ri_143 (fun H locs hP hD hS => ?_)
  have hP : va_P D ra_cl ([(h0, .inr (0, [.ref q1, .ref q3, .ref q5, .ref q7, .ref q9, .ref q11, .ref q13, .ref q15, .ref q16, .int 0])), (q15, .inl (kc 0, 8, .inl (upd (upd (upd (upd (upd (upd (upd (fun _ => 0) 0 (-1)) 1 (-1)) 2 (-1)) 3 (-1)) 4 (-1)) 5 (-1)) 6 (-1)))), (q16, .inl (kc 3, 4, .inr (.inr (.inr (.inr (fun _ => none))))))] ++ B7) H := hP
  have hD : va_D A ([(h0, .inr (0, [.ref q1, .ref q3, .ref q5, .ref q7, .ref q9, .ref q11, .ref q13, .ref q15, .ref q16, .int 0])), (q15, .inl (kc 0, 8, .inl (upd (upd (upd (upd (upd (upd (upd (fun _ => 0) 0 (-1)) 1 (-1)) 2 (-1)) 3 (-1)) 4 (-1)) 5 (-1)) 6 (-1)))), (q16, .inl (kc 3, 4, .inr (.inr (.inr (.inr (fun _ => none))))))] ++ B7) := hD
  refine lv_iinc (v := 7) (lv' := [(1, .int 7), (0, .ref h0)]) F.1 F.2.1 d_Ri_144 hl (k := 0) rfl (by decide) (by decide) rfl (fun ls hl => ?_)
  refine lv_goto (tgt := 131) F.1 F.2.1 d_Ri_147 (by decide) ?_
  refine lv_iload_n F.1 F.2.1 d_Ri_131 rfl (lv_at hl 0 rfl) ?_
  refine lv_bipush (v := 8) F.1 F.2.1 d_Ri_132 (by decide) ?_
  refine lv_icmp_ge (tgt := 150) F.1 F.2.1 d_Ri_134 (by decide) (fun h => absurd h (by decide)) (fun _ => ?_)
  refine lv_aload_n F.1 F.2.1 d_Ri_137 rfl (lv_at hl 1 rfl) ?_
  refine rz_get F cg_R 0 rfl 7 (by decide) fl_R_62 rfl hP d_Ri_138 ?_
  refine lv_iload_n F.1 F.2.1 d_Ri_141 rfl (lv_at hl 0 rfl) ?_
  refine lv_iconst (v := (-1)) F.1 F.2.1 d_Ri_142 (by decide) ?_
  refine va_iast F.1 F.2.1 F.2.2.2.2.2.1 hP hD hS 1 0 rfl rfl (vi (a := 7) (by decide) (by decide)) d_Ri_143 (fun H locs hP hD hS => ?_)
  have hP : va_P D ra_cl ([(h0, .inr (0, [.ref q1, .ref q3, .ref q5, .ref q7, .ref q9, .ref q11, .ref q13, .ref q15, .ref q16, .int 0])), (q15, .inl (kc 0, 8, .inl (upd (upd (upd (upd (upd (upd (upd (upd (fun _ => 0) 0 (-1)) 1 (-1)) 2 (-1)) 3 (-1)) 4 (-1)) 5 (-1)) 6 (-1)) 7 (-1)))), (q16, .inl (kc 3, 4, .inr (.inr (.inr (.inr (fun _ => none))))))] ++ B7) H := hP
  have hD : va_D A ([(h0, .inr (0, [.ref q1, .ref q3, .ref q5, .ref q7, .ref q9, .ref q11, .ref q13, .ref q15, .ref q16, .int 0])), (q15, .inl (kc 0, 8, .inl (upd (upd (upd (upd (upd (upd (upd (upd (fun _ => 0) 0 (-1)) 1 (-1)) 2 (-1)) 3 (-1)) 4 (-1)) 5 (-1)) 6 (-1)) 7 (-1)))), (q16, .inl (kc 3, 4, .inr (.inr (.inr (.inr (fun _ => none))))))] ++ B7) := hD
  refine lv_iinc (v := 8) (lv' := [(1, .int 8), (0, .ref h0)]) F.1 F.2.1 d_Ri_144 hl (k := 0) rfl (by decide) (by decide) rfl (fun ls hl => ?_)
  refine lv_goto (tgt := 131) F.1 F.2.1 d_Ri_147 (by decide) ?_
  refine lv_iload_n F.1 F.2.1 d_Ri_131 rfl (lv_at hl 0 rfl) ?_
  refine lv_bipush (v := 8) F.1 F.2.1 d_Ri_132 (by decide) ?_
  refine lv_icmp_ge (tgt := 150) F.1 F.2.1 d_Ri_134 (by decide) (fun _ => ?_) (fun h => absurd (by decide) h)
  refine lv_iconst (v := 0) F.1 F.2.1 d_Ri_150 (by decide) ?_
  refine lv_istore_n (lv' := [(1, .int 0), (0, .ref h0)]) F.1 F.2.1 d_Ri_151 rfl hl (by decide) rfl (fun ls hl => ?_)
  refine lv_iload_n F.1 F.2.1 d_Ri_152 rfl (lv_at hl 0 rfl) ?_
  refine lv_iconst (v := 4) F.1 F.2.1 d_Ri_153 (by decide) ?_
  refine lv_icmp_ge (tgt := 176) F.1 F.2.1 d_Ri_154 (by decide) (fun h => absurd h (by decide)) (fun _ => ?_)
  refine lv_aload_n F.1 F.2.1 d_Ri_157 rfl (lv_at hl 1 rfl) ?_
  refine rz_get F cg_R 0 rfl 8 (by decide) fl_R_68 rfl hP d_Ri_158 ?_
  refine lv_iload_n F.1 F.2.1 d_Ri_161 rfl (lv_at hl 0 rfl) ?_
  refine rz_new F cg_Sh (fs := [.null, .int 0, .int 0, .int 0]) (fun j hj => by have : j < 4 := hj; revert j; decide) cl_Ri_66 jn_Shi ji_Shi (Nat.le_of_ble_eq_true rfl) (Nat.le_of_ble_eq_true rfl) hP hD hS d_Ri_162 (fun q17 H hP hD hS => ?_)
  refine W.widen (k := 74) (n := 1808) (Nat.le_of_ble_eq_true rfl) (Nat.le_of_ble_eq_true rfl) ?_
  have hP : va_P D ra_cl ([(h0, .inr (0, [.ref q1, .ref q3, .ref q5, .ref q7, .ref q9, .ref q11, .ref q13, .ref q15, .ref q16, .int 0])), (q15, .inl (kc 0, 8, .inl (upd (upd (upd (upd (upd (upd (upd (upd (fun _ => 0) 0 (-1)) 1 (-1)) 2 (-1)) 3 (-1)) 4 (-1)) 5 (-1)) 6 (-1)) 7 (-1)))), (q16, .inl (kc 3, 4, .inr (.inr (.inr (.inr (fun _ => none))))))] ++ B7 ++ [(q17, .inr (10, [.null, .int 0, .int 0, .int 0]))]) H := hP
  have hD : va_D A ([(h0, .inr (0, [.ref q1, .ref q3, .ref q5, .ref q7, .ref q9, .ref q11, .ref q13, .ref q15, .ref q16, .int 0])), (q15, .inl (kc 0, 8, .inl (upd (upd (upd (upd (upd (upd (upd (upd (fun _ => 0) 0 (-1)) 1 (-1)) 2 (-1)) 3 (-1)) 4 (-1)) 5 (-1)) 6 (-1)) 7 (-1)))), (q16, .inl (kc 3, 4, .inr (.inr (.inr (.inr (fun _ => none))))))] ++ B7 ++ [(q17, .inr (10, [.null, .int 0, .int 0, .int 0]))]) := hD
  refine lv_dup F.1 F.2.1 d_Ri_165 rfl ?_
  refine rz_callN (host := "RoofAcross") (wr := [(h0, .inr (0, [.ref q1, .ref q3, .ref q5, .ref q7, .ref q9, .ref q11, .ref q13, .ref q15, .ref q16, .int 0])), (q15, .inl (kc 0, 8, .inl (upd (upd (upd (upd (upd (upd (upd (upd (fun _ => 0) 0 (-1)) 1 (-1)) 2 (-1)) 3 (-1)) 4 (-1)) 5 (-1)) 6 (-1)) 7 (-1)))), (q16, .inl (kc 3, 4, .inr (.inr (.inr (.inr (fun _ => none))))))] ++ B7) (As := []) (rest := [.ref q17, .int 0, .ref q16]) F (c_Shi kc q17) rfl jc_Shi ji_Shi (by decide +kernel) jm_Shi rfl ⟨by decide +kernel, by decide +kernel, by show _ = some 0; decide +kernel⟩ ⟨Nat.le_of_ble_eq_true rfl, Nat.le_of_ble_eq_true rfl⟩ ⟨Nat.le_of_ble_eq_true rfl, Nat.le_of_ble_eq_true rfl⟩ hP hD hS hl rfl (Nat.le_of_ble_eq_true rfl) d_Ri_166 (fun u18 H locs hP hD hS => ?_)
  refine W.widen (k := 75) (n := 1856) (Nat.le_of_ble_eq_true rfl) (Nat.le_of_ble_eq_true rfl) ?_
  have hP : va_P D ra_cl ([(h0, .inr (0, [.ref q1, .ref q3, .ref q5, .ref q7, .ref q9, .ref q11, .ref q13, .ref q15, .ref q16, .int 0])), (q15, .inl (kc 0, 8, .inl (upd (upd (upd (upd (upd (upd (upd (upd (fun _ => 0) 0 (-1)) 1 (-1)) 2 (-1)) 3 (-1)) 4 (-1)) 5 (-1)) 6 (-1)) 7 (-1)))), (q16, .inl (kc 3, 4, .inr (.inr (.inr (.inr (fun _ => none))))))] ++ B7 ++ (w_Shi kc q17 u18)) H := hP
  have hD : va_D A ([(h0, .inr (0, [.ref q1, .ref q3, .ref q5, .ref q7, .ref q9, .ref q11, .ref q13, .ref q15, .ref q16, .int 0])), (q15, .inl (kc 0, 8, .inl (upd (upd (upd (upd (upd (upd (upd (upd (fun _ => 0) 0 (-1)) 1 (-1)) 2 (-1)) 3 (-1)) 4 (-1)) 5 (-1)) 6 (-1)) 7 (-1)))), (q16, .inl (kc 3, 4, .inr (.inr (.inr (.inr (fun _ => none))))))] ++ B7 ++ (w_Shi kc q17 u18)) := hD
  have hP := va_P_perm hP (perm2 _ _ _)
  have hD := va_D_perm hD (perm2 _ _ _)
  refine va_astq F.1 F.2.1 F.2.2.2.2.2.1 hP hD hS 2 3 3 10 rfl rfl rfl rfl (vi (a := 0) (by decide) (by decide)) d_Ri_169 (fun H locs hP hD hS => ?_)
  have hP : va_P D ra_cl ([(h0, .inr (0, [.ref q1, .ref q3, .ref q5, .ref q7, .ref q9, .ref q11, .ref q13, .ref q15, .ref q16, .int 0])), (q15, .inl (kc 0, 8, .inl (upd (upd (upd (upd (upd (upd (upd (upd (fun _ => 0) 0 (-1)) 1 (-1)) 2 (-1)) 3 (-1)) 4 (-1)) 5 (-1)) 6 (-1)) 7 (-1)))), (q16, .inl (kc 3, 4, .inr (.inr (.inr (.inr (va_up (fun _ => none) 0 (some q17)))))))] ++ ((w_Shi kc q17 u18) ++ B7)) H := hP
  have hD : va_D A ([(h0, .inr (0, [.ref q1, .ref q3, .ref q5, .ref q7, .ref q9, .ref q11, .ref q13, .ref q15, .ref q16, .int 0])), (q15, .inl (kc 0, 8, .inl (upd (upd (upd (upd (upd (upd (upd (upd (fun _ => 0) 0 (-1)) 1 (-1)) 2 (-1)) 3 (-1)) 4 (-1)) 5 (-1)) 6 (-1)) 7 (-1)))), (q16, .inl (kc 3, 4, .inr (.inr (.inr (.inr (va_up (fun _ => none) 0 (some q17)))))))] ++ ((w_Shi kc q17 u18) ++ B7)) := hD
  have hP := va_P_perm hP (perm3 _ _ _)
  have hD := va_D_perm hD (perm3 _ _ _)
  obtain ⟨B8, hB8, hP, hD⟩ : ∃ B : va_W, B = B7 ++ (w_Shi kc q17 u18) ∧ va_P D ra_cl ([(h0, .inr (0, [.ref q1, .ref q3, .ref q5, .ref q7, .ref q9, .ref q11, .ref q13, .ref q15, .ref q16, .int 0])), (q15, .inl (kc 0, 8, .inl (upd (upd (upd (upd (upd (upd (upd (upd (fun _ => 0) 0 (-1)) 1 (-1)) 2 (-1)) 3 (-1)) 4 (-1)) 5 (-1)) 6 (-1)) 7 (-1)))), (q16, .inl (kc 3, 4, .inr (.inr (.inr (.inr (va_up (fun _ => none) 0 (some q17)))))))] ++ B) H ∧ va_D A ([(h0, .inr (0, [.ref q1, .ref q3, .ref q5, .ref q7, .ref q9, .ref q11, .ref q13, .ref q15, .ref q16, .int 0])), (q15, .inl (kc 0, 8, .inl (upd (upd (upd (upd (upd (upd (upd (upd (fun _ => 0) 0 (-1)) 1 (-1)) 2 (-1)) 3 (-1)) 4 (-1)) 5 (-1)) 6 (-1)) 7 (-1)))), (q16, .inl (kc 3, 4, .inr (.inr (.inr (.inr (va_up (fun _ => none) 0 (some q17)))))))] ++ B) := ⟨_, rfl, hP, hD⟩
  refine lv_iinc (v := 1) (lv' := [(1, .int 1), (0, .ref h0)]) F.1 F.2.1 d_Ri_170 hl (k := 0) rfl (by decide) (by decide) rfl (fun ls hl => ?_)
  refine lv_goto (tgt := 152) F.1 F.2.1 d_Ri_173 (by decide) ?_
  refine lv_iload_n F.1 F.2.1 d_Ri_152 rfl (lv_at hl 0 rfl) ?_
  refine lv_iconst (v := 4) F.1 F.2.1 d_Ri_153 (by decide) ?_
  refine lv_icmp_ge (tgt := 176) F.1 F.2.1 d_Ri_154 (by decide) (fun h => absurd h (by decide)) (fun _ => ?_)
  refine lv_aload_n F.1 F.2.1 d_Ri_157 rfl (lv_at hl 1 rfl) ?_
  refine rz_get F cg_R 0 rfl 8 (by decide) fl_R_68 rfl hP d_Ri_158 ?_
  refine lv_iload_n F.1 F.2.1 d_Ri_161 rfl (lv_at hl 0 rfl) ?_
  refine rz_new F cg_Sh (fs := [.null, .int 0, .int 0, .int 0]) (fun j hj => by have : j < 4 := hj; revert j; decide) cl_Ri_66 jn_Shi ji_Shi (Nat.le_of_ble_eq_true rfl) (Nat.le_of_ble_eq_true rfl) hP hD hS d_Ri_162 (fun q19 H hP hD hS => ?_)
  refine W.widen (k := 76) (n := 1860) (Nat.le_of_ble_eq_true rfl) (Nat.le_of_ble_eq_true rfl) ?_
  have hP : va_P D ra_cl ([(h0, .inr (0, [.ref q1, .ref q3, .ref q5, .ref q7, .ref q9, .ref q11, .ref q13, .ref q15, .ref q16, .int 0])), (q15, .inl (kc 0, 8, .inl (upd (upd (upd (upd (upd (upd (upd (upd (fun _ => 0) 0 (-1)) 1 (-1)) 2 (-1)) 3 (-1)) 4 (-1)) 5 (-1)) 6 (-1)) 7 (-1)))), (q16, .inl (kc 3, 4, .inr (.inr (.inr (.inr (va_up (fun _ => none) 0 (some q17)))))))] ++ B8 ++ [(q19, .inr (10, [.null, .int 0, .int 0, .int 0]))]) H := hP
  have hD : va_D A ([(h0, .inr (0, [.ref q1, .ref q3, .ref q5, .ref q7, .ref q9, .ref q11, .ref q13, .ref q15, .ref q16, .int 0])), (q15, .inl (kc 0, 8, .inl (upd (upd (upd (upd (upd (upd (upd (upd (fun _ => 0) 0 (-1)) 1 (-1)) 2 (-1)) 3 (-1)) 4 (-1)) 5 (-1)) 6 (-1)) 7 (-1)))), (q16, .inl (kc 3, 4, .inr (.inr (.inr (.inr (va_up (fun _ => none) 0 (some q17)))))))] ++ B8 ++ [(q19, .inr (10, [.null, .int 0, .int 0, .int 0]))]) := hD
  refine lv_dup F.1 F.2.1 d_Ri_165 rfl ?_
  refine rz_callN (host := "RoofAcross") (wr := [(h0, .inr (0, [.ref q1, .ref q3, .ref q5, .ref q7, .ref q9, .ref q11, .ref q13, .ref q15, .ref q16, .int 0])), (q15, .inl (kc 0, 8, .inl (upd (upd (upd (upd (upd (upd (upd (upd (fun _ => 0) 0 (-1)) 1 (-1)) 2 (-1)) 3 (-1)) 4 (-1)) 5 (-1)) 6 (-1)) 7 (-1)))), (q16, .inl (kc 3, 4, .inr (.inr (.inr (.inr (va_up (fun _ => none) 0 (some q17)))))))] ++ B8) (As := []) (rest := [.ref q19, .int 1, .ref q16]) F (c_Shi kc q19) rfl jc_Shi ji_Shi (by decide +kernel) jm_Shi rfl ⟨by decide +kernel, by decide +kernel, by show _ = some 0; decide +kernel⟩ ⟨Nat.le_of_ble_eq_true rfl, Nat.le_of_ble_eq_true rfl⟩ ⟨Nat.le_of_ble_eq_true rfl, Nat.le_of_ble_eq_true rfl⟩ hP hD hS hl rfl (Nat.le_of_ble_eq_true rfl) d_Ri_166 (fun u20 H locs hP hD hS => ?_)
  refine W.widen (k := 77) (n := 1908) (Nat.le_of_ble_eq_true rfl) (Nat.le_of_ble_eq_true rfl) ?_
  have hP : va_P D ra_cl ([(h0, .inr (0, [.ref q1, .ref q3, .ref q5, .ref q7, .ref q9, .ref q11, .ref q13, .ref q15, .ref q16, .int 0])), (q15, .inl (kc 0, 8, .inl (upd (upd (upd (upd (upd (upd (upd (upd (fun _ => 0) 0 (-1)) 1 (-1)) 2 (-1)) 3 (-1)) 4 (-1)) 5 (-1)) 6 (-1)) 7 (-1)))), (q16, .inl (kc 3, 4, .inr (.inr (.inr (.inr (va_up (fun _ => none) 0 (some q17)))))))] ++ B8 ++ (w_Shi kc q19 u20)) H := hP
  have hD : va_D A ([(h0, .inr (0, [.ref q1, .ref q3, .ref q5, .ref q7, .ref q9, .ref q11, .ref q13, .ref q15, .ref q16, .int 0])), (q15, .inl (kc 0, 8, .inl (upd (upd (upd (upd (upd (upd (upd (upd (fun _ => 0) 0 (-1)) 1 (-1)) 2 (-1)) 3 (-1)) 4 (-1)) 5 (-1)) 6 (-1)) 7 (-1)))), (q16, .inl (kc 3, 4, .inr (.inr (.inr (.inr (va_up (fun _ => none) 0 (some q17)))))))] ++ B8 ++ (w_Shi kc q19 u20)) := hD
  have hP := va_P_perm hP (perm2 _ _ _)
  have hD := va_D_perm hD (perm2 _ _ _)
  refine va_astq F.1 F.2.1 F.2.2.2.2.2.1 hP hD hS 2 3 3 10 rfl rfl rfl rfl (vi (a := 1) (by decide) (by decide)) d_Ri_169 (fun H locs hP hD hS => ?_)
  have hP : va_P D ra_cl ([(h0, .inr (0, [.ref q1, .ref q3, .ref q5, .ref q7, .ref q9, .ref q11, .ref q13, .ref q15, .ref q16, .int 0])), (q15, .inl (kc 0, 8, .inl (upd (upd (upd (upd (upd (upd (upd (upd (fun _ => 0) 0 (-1)) 1 (-1)) 2 (-1)) 3 (-1)) 4 (-1)) 5 (-1)) 6 (-1)) 7 (-1)))), (q16, .inl (kc 3, 4, .inr (.inr (.inr (.inr (va_up (va_up (fun _ => none) 0 (some q17)) 1 (some q19)))))))] ++ ((w_Shi kc q19 u20) ++ B8)) H := hP
  have hD : va_D A ([(h0, .inr (0, [.ref q1, .ref q3, .ref q5, .ref q7, .ref q9, .ref q11, .ref q13, .ref q15, .ref q16, .int 0])), (q15, .inl (kc 0, 8, .inl (upd (upd (upd (upd (upd (upd (upd (upd (fun _ => 0) 0 (-1)) 1 (-1)) 2 (-1)) 3 (-1)) 4 (-1)) 5 (-1)) 6 (-1)) 7 (-1)))), (q16, .inl (kc 3, 4, .inr (.inr (.inr (.inr (va_up (va_up (fun _ => none) 0 (some q17)) 1 (some q19)))))))] ++ ((w_Shi kc q19 u20) ++ B8)) := hD
  have hP := va_P_perm hP (perm3 _ _ _)
  have hD := va_D_perm hD (perm3 _ _ _)
  obtain ⟨B9, hB9, hP, hD⟩ : ∃ B : va_W, B = B8 ++ (w_Shi kc q19 u20) ∧ va_P D ra_cl ([(h0, .inr (0, [.ref q1, .ref q3, .ref q5, .ref q7, .ref q9, .ref q11, .ref q13, .ref q15, .ref q16, .int 0])), (q15, .inl (kc 0, 8, .inl (upd (upd (upd (upd (upd (upd (upd (upd (fun _ => 0) 0 (-1)) 1 (-1)) 2 (-1)) 3 (-1)) 4 (-1)) 5 (-1)) 6 (-1)) 7 (-1)))), (q16, .inl (kc 3, 4, .inr (.inr (.inr (.inr (va_up (va_up (fun _ => none) 0 (some q17)) 1 (some q19)))))))] ++ B) H ∧ va_D A ([(h0, .inr (0, [.ref q1, .ref q3, .ref q5, .ref q7, .ref q9, .ref q11, .ref q13, .ref q15, .ref q16, .int 0])), (q15, .inl (kc 0, 8, .inl (upd (upd (upd (upd (upd (upd (upd (upd (fun _ => 0) 0 (-1)) 1 (-1)) 2 (-1)) 3 (-1)) 4 (-1)) 5 (-1)) 6 (-1)) 7 (-1)))), (q16, .inl (kc 3, 4, .inr (.inr (.inr (.inr (va_up (va_up (fun _ => none) 0 (some q17)) 1 (some q19)))))))] ++ B) := ⟨_, rfl, hP, hD⟩
  refine lv_iinc (v := 2) (lv' := [(1, .int 2), (0, .ref h0)]) F.1 F.2.1 d_Ri_170 hl (k := 0) rfl (by decide) (by decide) rfl (fun ls hl => ?_)
  refine lv_goto (tgt := 152) F.1 F.2.1 d_Ri_173 (by decide) ?_
  refine lv_iload_n F.1 F.2.1 d_Ri_152 rfl (lv_at hl 0 rfl) ?_
  refine lv_iconst (v := 4) F.1 F.2.1 d_Ri_153 (by decide) ?_
  refine lv_icmp_ge (tgt := 176) F.1 F.2.1 d_Ri_154 (by decide) (fun h => absurd h (by decide)) (fun _ => ?_)
  refine lv_aload_n F.1 F.2.1 d_Ri_157 rfl (lv_at hl 1 rfl) ?_
  refine rz_get F cg_R 0 rfl 8 (by decide) fl_R_68 rfl hP d_Ri_158 ?_
  refine lv_iload_n F.1 F.2.1 d_Ri_161 rfl (lv_at hl 0 rfl) ?_
  refine rz_new F cg_Sh (fs := [.null, .int 0, .int 0, .int 0]) (fun j hj => by have : j < 4 := hj; revert j; decide) cl_Ri_66 jn_Shi ji_Shi (Nat.le_of_ble_eq_true rfl) (Nat.le_of_ble_eq_true rfl) hP hD hS d_Ri_162 (fun q21 H hP hD hS => ?_)
  refine W.widen (k := 78) (n := 1912) (Nat.le_of_ble_eq_true rfl) (Nat.le_of_ble_eq_true rfl) ?_
  have hP : va_P D ra_cl ([(h0, .inr (0, [.ref q1, .ref q3, .ref q5, .ref q7, .ref q9, .ref q11, .ref q13, .ref q15, .ref q16, .int 0])), (q15, .inl (kc 0, 8, .inl (upd (upd (upd (upd (upd (upd (upd (upd (fun _ => 0) 0 (-1)) 1 (-1)) 2 (-1)) 3 (-1)) 4 (-1)) 5 (-1)) 6 (-1)) 7 (-1)))), (q16, .inl (kc 3, 4, .inr (.inr (.inr (.inr (va_up (va_up (fun _ => none) 0 (some q17)) 1 (some q19)))))))] ++ B9 ++ [(q21, .inr (10, [.null, .int 0, .int 0, .int 0]))]) H := hP
  have hD : va_D A ([(h0, .inr (0, [.ref q1, .ref q3, .ref q5, .ref q7, .ref q9, .ref q11, .ref q13, .ref q15, .ref q16, .int 0])), (q15, .inl (kc 0, 8, .inl (upd (upd (upd (upd (upd (upd (upd (upd (fun _ => 0) 0 (-1)) 1 (-1)) 2 (-1)) 3 (-1)) 4 (-1)) 5 (-1)) 6 (-1)) 7 (-1)))), (q16, .inl (kc 3, 4, .inr (.inr (.inr (.inr (va_up (va_up (fun _ => none) 0 (some q17)) 1 (some q19)))))))] ++ B9 ++ [(q21, .inr (10, [.null, .int 0, .int 0, .int 0]))]) := hD
  refine lv_dup F.1 F.2.1 d_Ri_165 rfl ?_
  refine rz_callN (host := "RoofAcross") (wr := [(h0, .inr (0, [.ref q1, .ref q3, .ref q5, .ref q7, .ref q9, .ref q11, .ref q13, .ref q15, .ref q16, .int 0])), (q15, .inl (kc 0, 8, .inl (upd (upd (upd (upd (upd (upd (upd (upd (fun _ => 0) 0 (-1)) 1 (-1)) 2 (-1)) 3 (-1)) 4 (-1)) 5 (-1)) 6 (-1)) 7 (-1)))), (q16, .inl (kc 3, 4, .inr (.inr (.inr (.inr (va_up (va_up (fun _ => none) 0 (some q17)) 1 (some q19)))))))] ++ B9) (As := []) (rest := [.ref q21, .int 2, .ref q16]) F (c_Shi kc q21) rfl jc_Shi ji_Shi (by decide +kernel) jm_Shi rfl ⟨by decide +kernel, by decide +kernel, by show _ = some 0; decide +kernel⟩ ⟨Nat.le_of_ble_eq_true rfl, Nat.le_of_ble_eq_true rfl⟩ ⟨Nat.le_of_ble_eq_true rfl, Nat.le_of_ble_eq_true rfl⟩ hP hD hS hl rfl (Nat.le_of_ble_eq_true rfl) d_Ri_166 (fun u22 H locs hP hD hS => ?_)
  refine W.widen (k := 79) (n := 1960) (Nat.le_of_ble_eq_true rfl) (Nat.le_of_ble_eq_true rfl) ?_
  have hP : va_P D ra_cl ([(h0, .inr (0, [.ref q1, .ref q3, .ref q5, .ref q7, .ref q9, .ref q11, .ref q13, .ref q15, .ref q16, .int 0])), (q15, .inl (kc 0, 8, .inl (upd (upd (upd (upd (upd (upd (upd (upd (fun _ => 0) 0 (-1)) 1 (-1)) 2 (-1)) 3 (-1)) 4 (-1)) 5 (-1)) 6 (-1)) 7 (-1)))), (q16, .inl (kc 3, 4, .inr (.inr (.inr (.inr (va_up (va_up (fun _ => none) 0 (some q17)) 1 (some q19)))))))] ++ B9 ++ (w_Shi kc q21 u22)) H := hP
  have hD : va_D A ([(h0, .inr (0, [.ref q1, .ref q3, .ref q5, .ref q7, .ref q9, .ref q11, .ref q13, .ref q15, .ref q16, .int 0])), (q15, .inl (kc 0, 8, .inl (upd (upd (upd (upd (upd (upd (upd (upd (fun _ => 0) 0 (-1)) 1 (-1)) 2 (-1)) 3 (-1)) 4 (-1)) 5 (-1)) 6 (-1)) 7 (-1)))), (q16, .inl (kc 3, 4, .inr (.inr (.inr (.inr (va_up (va_up (fun _ => none) 0 (some q17)) 1 (some q19)))))))] ++ B9 ++ (w_Shi kc q21 u22)) := hD
  have hP := va_P_perm hP (perm2 _ _ _)
  have hD := va_D_perm hD (perm2 _ _ _)
  refine va_astq F.1 F.2.1 F.2.2.2.2.2.1 hP hD hS 2 3 3 10 rfl rfl rfl rfl (vi (a := 2) (by decide) (by decide)) d_Ri_169 (fun H locs hP hD hS => ?_)
  have hP : va_P D ra_cl ([(h0, .inr (0, [.ref q1, .ref q3, .ref q5, .ref q7, .ref q9, .ref q11, .ref q13, .ref q15, .ref q16, .int 0])), (q15, .inl (kc 0, 8, .inl (upd (upd (upd (upd (upd (upd (upd (upd (fun _ => 0) 0 (-1)) 1 (-1)) 2 (-1)) 3 (-1)) 4 (-1)) 5 (-1)) 6 (-1)) 7 (-1)))), (q16, .inl (kc 3, 4, .inr (.inr (.inr (.inr (va_up (va_up (va_up (fun _ => none) 0 (some q17)) 1 (some q19)) 2 (some q21)))))))] ++ ((w_Shi kc q21 u22) ++ B9)) H := hP
  have hD : va_D A ([(h0, .inr (0, [.ref q1, .ref q3, .ref q5, .ref q7, .ref q9, .ref q11, .ref q13, .ref q15, .ref q16, .int 0])), (q15, .inl (kc 0, 8, .inl (upd (upd (upd (upd (upd (upd (upd (upd (fun _ => 0) 0 (-1)) 1 (-1)) 2 (-1)) 3 (-1)) 4 (-1)) 5 (-1)) 6 (-1)) 7 (-1)))), (q16, .inl (kc 3, 4, .inr (.inr (.inr (.inr (va_up (va_up (va_up (fun _ => none) 0 (some q17)) 1 (some q19)) 2 (some q21)))))))] ++ ((w_Shi kc q21 u22) ++ B9)) := hD
  have hP := va_P_perm hP (perm3 _ _ _)
  have hD := va_D_perm hD (perm3 _ _ _)
  obtain ⟨B10, hB10, hP, hD⟩ : ∃ B : va_W, B = B9 ++ (w_Shi kc q21 u22) ∧ va_P D ra_cl ([(h0, .inr (0, [.ref q1, .ref q3, .ref q5, .ref q7, .ref q9, .ref q11, .ref q13, .ref q15, .ref q16, .int 0])), (q15, .inl (kc 0, 8, .inl (upd (upd (upd (upd (upd (upd (upd (upd (fun _ => 0) 0 (-1)) 1 (-1)) 2 (-1)) 3 (-1)) 4 (-1)) 5 (-1)) 6 (-1)) 7 (-1)))), (q16, .inl (kc 3, 4, .inr (.inr (.inr (.inr (va_up (va_up (va_up (fun _ => none) 0 (some q17)) 1 (some q19)) 2 (some q21)))))))] ++ B) H ∧ va_D A ([(h0, .inr (0, [.ref q1, .ref q3, .ref q5, .ref q7, .ref q9, .ref q11, .ref q13, .ref q15, .ref q16, .int 0])), (q15, .inl (kc 0, 8, .inl (upd (upd (upd (upd (upd (upd (upd (upd (fun _ => 0) 0 (-1)) 1 (-1)) 2 (-1)) 3 (-1)) 4 (-1)) 5 (-1)) 6 (-1)) 7 (-1)))), (q16, .inl (kc 3, 4, .inr (.inr (.inr (.inr (va_up (va_up (va_up (fun _ => none) 0 (some q17)) 1 (some q19)) 2 (some q21)))))))] ++ B) := ⟨_, rfl, hP, hD⟩
  refine lv_iinc (v := 3) (lv' := [(1, .int 3), (0, .ref h0)]) F.1 F.2.1 d_Ri_170 hl (k := 0) rfl (by decide) (by decide) rfl (fun ls hl => ?_)
  refine lv_goto (tgt := 152) F.1 F.2.1 d_Ri_173 (by decide) ?_
  refine lv_iload_n F.1 F.2.1 d_Ri_152 rfl (lv_at hl 0 rfl) ?_
  refine lv_iconst (v := 4) F.1 F.2.1 d_Ri_153 (by decide) ?_
  refine lv_icmp_ge (tgt := 176) F.1 F.2.1 d_Ri_154 (by decide) (fun h => absurd h (by decide)) (fun _ => ?_)
  refine lv_aload_n F.1 F.2.1 d_Ri_157 rfl (lv_at hl 1 rfl) ?_
  refine rz_get F cg_R 0 rfl 8 (by decide) fl_R_68 rfl hP d_Ri_158 ?_
  refine lv_iload_n F.1 F.2.1 d_Ri_161 rfl (lv_at hl 0 rfl) ?_
  refine rz_new F cg_Sh (fs := [.null, .int 0, .int 0, .int 0]) (fun j hj => by have : j < 4 := hj; revert j; decide) cl_Ri_66 jn_Shi ji_Shi (Nat.le_of_ble_eq_true rfl) (Nat.le_of_ble_eq_true rfl) hP hD hS d_Ri_162 (fun q23 H hP hD hS => ?_)
  refine W.widen (k := 80) (n := 1964) (Nat.le_of_ble_eq_true rfl) (Nat.le_of_ble_eq_true rfl) ?_
  have hP : va_P D ra_cl ([(h0, .inr (0, [.ref q1, .ref q3, .ref q5, .ref q7, .ref q9, .ref q11, .ref q13, .ref q15, .ref q16, .int 0])), (q15, .inl (kc 0, 8, .inl (upd (upd (upd (upd (upd (upd (upd (upd (fun _ => 0) 0 (-1)) 1 (-1)) 2 (-1)) 3 (-1)) 4 (-1)) 5 (-1)) 6 (-1)) 7 (-1)))), (q16, .inl (kc 3, 4, .inr (.inr (.inr (.inr (va_up (va_up (va_up (fun _ => none) 0 (some q17)) 1 (some q19)) 2 (some q21)))))))] ++ B10 ++ [(q23, .inr (10, [.null, .int 0, .int 0, .int 0]))]) H := hP
  have hD : va_D A ([(h0, .inr (0, [.ref q1, .ref q3, .ref q5, .ref q7, .ref q9, .ref q11, .ref q13, .ref q15, .ref q16, .int 0])), (q15, .inl (kc 0, 8, .inl (upd (upd (upd (upd (upd (upd (upd (upd (fun _ => 0) 0 (-1)) 1 (-1)) 2 (-1)) 3 (-1)) 4 (-1)) 5 (-1)) 6 (-1)) 7 (-1)))), (q16, .inl (kc 3, 4, .inr (.inr (.inr (.inr (va_up (va_up (va_up (fun _ => none) 0 (some q17)) 1 (some q19)) 2 (some q21)))))))] ++ B10 ++ [(q23, .inr (10, [.null, .int 0, .int 0, .int 0]))]) := hD
  refine lv_dup F.1 F.2.1 d_Ri_165 rfl ?_
  refine rz_callN (host := "RoofAcross") (wr := [(h0, .inr (0, [.ref q1, .ref q3, .ref q5, .ref q7, .ref q9, .ref q11, .ref q13, .ref q15, .ref q16, .int 0])), (q15, .inl (kc 0, 8, .inl (upd (upd (upd (upd (upd (upd (upd (upd (fun _ => 0) 0 (-1)) 1 (-1)) 2 (-1)) 3 (-1)) 4 (-1)) 5 (-1)) 6 (-1)) 7 (-1)))), (q16, .inl (kc 3, 4, .inr (.inr (.inr (.inr (va_up (va_up (va_up (fun _ => none) 0 (some q17)) 1 (some q19)) 2 (some q21)))))))] ++ B10) (As := []) (rest := [.ref q23, .int 3, .ref q16]) F (c_Shi kc q23) rfl jc_Shi ji_Shi (by decide +kernel) jm_Shi rfl ⟨by decide +kernel, by decide +kernel, by show _ = some 0; decide +kernel⟩ ⟨Nat.le_of_ble_eq_true rfl, Nat.le_of_ble_eq_true rfl⟩ ⟨Nat.le_of_ble_eq_true rfl, Nat.le_of_ble_eq_true rfl⟩ hP hD hS hl rfl (Nat.le_of_ble_eq_true rfl) d_Ri_166 (fun u24 H locs hP hD hS => ?_)
  refine W.widen (k := 81) (n := 2012) (Nat.le_of_ble_eq_true rfl) (Nat.le_of_ble_eq_true rfl) ?_
  have hP : va_P D ra_cl ([(h0, .inr (0, [.ref q1, .ref q3, .ref q5, .ref q7, .ref q9, .ref q11, .ref q13, .ref q15, .ref q16, .int 0])), (q15, .inl (kc 0, 8, .inl (upd (upd (upd (upd (upd (upd (upd (upd (fun _ => 0) 0 (-1)) 1 (-1)) 2 (-1)) 3 (-1)) 4 (-1)) 5 (-1)) 6 (-1)) 7 (-1)))), (q16, .inl (kc 3, 4, .inr (.inr (.inr (.inr (va_up (va_up (va_up (fun _ => none) 0 (some q17)) 1 (some q19)) 2 (some q21)))))))] ++ B10 ++ (w_Shi kc q23 u24)) H := hP
  have hD : va_D A ([(h0, .inr (0, [.ref q1, .ref q3, .ref q5, .ref q7, .ref q9, .ref q11, .ref q13, .ref q15, .ref q16, .int 0])), (q15, .inl (kc 0, 8, .inl (upd (upd (upd (upd (upd (upd (upd (upd (fun _ => 0) 0 (-1)) 1 (-1)) 2 (-1)) 3 (-1)) 4 (-1)) 5 (-1)) 6 (-1)) 7 (-1)))), (q16, .inl (kc 3, 4, .inr (.inr (.inr (.inr (va_up (va_up (va_up (fun _ => none) 0 (some q17)) 1 (some q19)) 2 (some q21)))))))] ++ B10 ++ (w_Shi kc q23 u24)) := hD
  have hP := va_P_perm hP (perm2 _ _ _)
  have hD := va_D_perm hD (perm2 _ _ _)
  refine va_astq F.1 F.2.1 F.2.2.2.2.2.1 hP hD hS 2 3 3 10 rfl rfl rfl rfl (vi (a := 3) (by decide) (by decide)) d_Ri_169 (fun H locs hP hD hS => ?_)
  have hP : va_P D ra_cl ([(h0, .inr (0, [.ref q1, .ref q3, .ref q5, .ref q7, .ref q9, .ref q11, .ref q13, .ref q15, .ref q16, .int 0])), (q15, .inl (kc 0, 8, .inl (upd (upd (upd (upd (upd (upd (upd (upd (fun _ => 0) 0 (-1)) 1 (-1)) 2 (-1)) 3 (-1)) 4 (-1)) 5 (-1)) 6 (-1)) 7 (-1)))), (q16, .inl (kc 3, 4, .inr (.inr (.inr (.inr (va_up (va_up (va_up (va_up (fun _ => none) 0 (some q17)) 1 (some q19)) 2 (some q21)) 3 (some q23)))))))] ++ ((w_Shi kc q23 u24) ++ B10)) H := hP
  have hD : va_D A ([(h0, .inr (0, [.ref q1, .ref q3, .ref q5, .ref q7, .ref q9, .ref q11, .ref q13, .ref q15, .ref q16, .int 0])), (q15, .inl (kc 0, 8, .inl (upd (upd (upd (upd (upd (upd (upd (upd (fun _ => 0) 0 (-1)) 1 (-1)) 2 (-1)) 3 (-1)) 4 (-1)) 5 (-1)) 6 (-1)) 7 (-1)))), (q16, .inl (kc 3, 4, .inr (.inr (.inr (.inr (va_up (va_up (va_up (va_up (fun _ => none) 0 (some q17)) 1 (some q19)) 2 (some q21)) 3 (some q23)))))))] ++ ((w_Shi kc q23 u24) ++ B10)) := hD
  have hP := va_P_perm hP (perm3 _ _ _)
  have hD := va_D_perm hD (perm3 _ _ _)
  obtain ⟨B11, hB11, hP, hD⟩ : ∃ B : va_W, B = B10 ++ (w_Shi kc q23 u24) ∧ va_P D ra_cl ([(h0, .inr (0, [.ref q1, .ref q3, .ref q5, .ref q7, .ref q9, .ref q11, .ref q13, .ref q15, .ref q16, .int 0])), (q15, .inl (kc 0, 8, .inl (upd (upd (upd (upd (upd (upd (upd (upd (fun _ => 0) 0 (-1)) 1 (-1)) 2 (-1)) 3 (-1)) 4 (-1)) 5 (-1)) 6 (-1)) 7 (-1)))), (q16, .inl (kc 3, 4, .inr (.inr (.inr (.inr (va_up (va_up (va_up (va_up (fun _ => none) 0 (some q17)) 1 (some q19)) 2 (some q21)) 3 (some q23)))))))] ++ B) H ∧ va_D A ([(h0, .inr (0, [.ref q1, .ref q3, .ref q5, .ref q7, .ref q9, .ref q11, .ref q13, .ref q15, .ref q16, .int 0])), (q15, .inl (kc 0, 8, .inl (upd (upd (upd (upd (upd (upd (upd (upd (fun _ => 0) 0 (-1)) 1 (-1)) 2 (-1)) 3 (-1)) 4 (-1)) 5 (-1)) 6 (-1)) 7 (-1)))), (q16, .inl (kc 3, 4, .inr (.inr (.inr (.inr (va_up (va_up (va_up (va_up (fun _ => none) 0 (some q17)) 1 (some q19)) 2 (some q21)) 3 (some q23)))))))] ++ B) := ⟨_, rfl, hP, hD⟩
  refine lv_iinc (v := 4) (lv' := [(1, .int 4), (0, .ref h0)]) F.1 F.2.1 d_Ri_170 hl (k := 0) rfl (by decide) (by decide) rfl (fun ls hl => ?_)
  refine lv_goto (tgt := 152) F.1 F.2.1 d_Ri_173 (by decide) ?_
  refine lv_iload_n F.1 F.2.1 d_Ri_152 rfl (lv_at hl 0 rfl) ?_
  refine lv_iconst (v := 4) F.1 F.2.1 d_Ri_153 (by decide) ?_
  refine lv_icmp_ge (tgt := 176) F.1 F.2.1 d_Ri_154 (by decide) (fun _ => ?_) (fun h => absurd (by decide) h)
  have e9 : B11 = [] ++ (w_Vi kc q1 u2) ++ (w_Wti kc q3 u4) ++ (w_Soi kc q5 q1 q3 u6) ++ (w_Moi kc q7 q1 q3 u8) ++ (w_Exi kc q9 q1 u10) ++ (w_Kni kc q11 q1 u12) ++ (w_Hei kc q13 q1 q3 u14) ++ (w_Shi kc q17 u18) ++ (w_Shi kc q19 u20) ++ (w_Shi kc q21 u22) ++ (w_Shi kc q23 u24) := by rw [hB11, hB10, hB9, hB8, hB7, hB6, hB5, hB4, hB3, hB2, hB1, hB0]
  rw [e9] at hP hD
  have hP := va_P_perm hP (perm4 _ _ _ _ _ _ _ _)
  have hD := va_D_perm hD (perm4 _ _ _ _ _ _ _ _)
  have hP9 : va_P D ra_cl (w_Rb kc h0 q1 q3 q5 q7 q9 q11 q13 q15 q16 q17 q19 q21 q23 u2 u4 u6 u8 u10 u12 u14 u18 u20 u22 u24) H := by unfold w_Rb; exact hP
  have hD9 : va_D A (w_Rb kc h0 q1 q3 q5 q7 q9 q11 q13 q15 q16 q17 q19 q21 q23 u2 u4 u6 u8 u10 u12 u14 u18 u20 u22 u24) := by unfold w_Rb; exact hD
  exact rz_ret (w := w_Ri kc h0) F hr hlk (fun k => [fun j => [q1, q3, q5, q7, q9, q11, q13, q15, q16, q17, q19, q21, q23].getD j 0, u2, u4, u6, u8, u10, u12, u14, u18, u20, u22, u24].getD k (fun _ => 0)) hP9 hD9 hS (Nat.le_of_ble_eq_true rfl) (Nat.le_of_ble_eq_true rfl) d_Ri_176
